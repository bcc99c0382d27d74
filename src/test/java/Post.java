import java.util.ArrayList;
import java.util.List;

/**
 * A SeaPost that keeps a list of the calls made to it. So it can be made again as it stands, and a test that makes a
 * 513th call is told, as the document leaves the answer of that free.
 */
final class Post {
    interface Use {
        long on(SeaPost post);
    }

    static final int MOST_CALLS = 512;

    private final SeaPost real = new SeaPost();
    private final List<Use> uses = new ArrayList<>();

    /** A fresh object with the same calls behind it. */
    Post again() {
        Post copy = new Post();
        for (Use use : uses) {
            copy.answer(use);
        }
        return copy;
    }

    long make(Use use) {
        uses.add(use);
        if (uses.size() == MOST_CALLS + 1) {
            Check.is("calls to one object", uses.size(), MOST_CALLS);
        }
        return use.on(real);
    }

    int calls() {
        return uses.size();
    }

    /** What the call answers, as a text; if it throws, what, and whether the program itself threw it. */
    String answer(Use use) {
        try {
            return String.valueOf(make(use));
        } catch (RuntimeException e) {
            StackTraceElement[] open = e.getStackTrace();
            boolean own = open.length > 0 && open[0].getClassName().startsWith("SeaPost");
            return (own ? "throws." : "lets the library throw.") + e.getClass().getSimpleName();
        }
    }

    /** The call must throw this and change nothing. */
    void refuses(String what, String due, Use use) {
        String before = Picture.of(this);
        Check.is(what, answer(use), "throws." + due);
        Check.is("all answers behind " + what, Picture.of(this), before);
    }

    /** The marks of a letter, read from a fresh object, so that this one has no calls more. */
    String marksOf(int letter) {
        Post copy = again();
        StringBuilder text = new StringBuilder();
        int length = copy.marks(letter);
        for (int i = 0; i < length; i++) {
            text.append(copy.markAt(letter, i));
        }
        return text.toString();
    }

    int addShip() {
        return (int) make(SeaPost::addShip);
    }

    int call(int ship, int port, int arrives, int stays) {
        return (int) make(p -> p.call(ship, port, arrives, stays));
    }

    int tell(int ship, int port) {
        return (int) make(p -> p.tell(ship, port));
    }

    int shipAt(int ship) {
        return (int) make(p -> p.shipAt(ship));
    }

    int routes(int ship) {
        return (int) make(p -> p.routes(ship));
    }

    int word(int port, int ship) {
        return (int) make(p -> p.word(port, ship));
    }

    int behind(int ship) {
        return (int) make(p -> p.behind(ship));
    }

    int post(int port, int ship, int home) {
        return (int) make(p -> p.post(port, ship, home));
    }

    int strike(int port, int days) {
        return (int) make(p -> p.strike(port, days));
    }

    boolean isClosed(int port) {
        return make(p -> p.isClosed(port) ? 1 : 0) == 1;
    }

    int pass(int days) {
        return (int) make(p -> p.pass(days));
    }

    int today() {
        return (int) make(SeaPost::today);
    }

    int letters() {
        return (int) make(SeaPost::letters);
    }

    int state(int letter) {
        return (int) make(p -> p.state(letter));
    }

    int where(int letter) {
        return (int) make(p -> p.where(letter));
    }

    int whereByMarks(int letter) {
        return (int) make(p -> p.whereByMarks(letter));
    }

    int comesTo(int letter) {
        return (int) make(p -> p.comesTo(letter));
    }

    int sentOn(int letter) {
        return (int) make(p -> p.sentOn(letter));
    }

    int overtaken(int letter) {
        return (int) make(p -> p.overtaken(letter));
    }

    int lying(int port) {
        return (int) make(p -> p.lying(port));
    }

    int deadAt(int place) {
        return (int) make(p -> p.deadAt(place));
    }

    int deliveredAs(int ship, int place) {
        return (int) make(p -> p.deliveredAs(ship, place));
    }

    int marks(int letter) {
        return (int) make(p -> p.marks(letter));
    }

    char markAt(int letter, int index) {
        return (char) make(p -> p.markAt(letter, index));
    }

    int written(int letter, int place) {
        return (int) make(p -> p.written(letter, place));
    }
}
