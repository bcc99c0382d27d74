import java.util.Random;

/** Long walks of calls with good and wrong arguments: SeaPost must answer each as PlainPost does. */
public final class WalkTest {
    private static final int WALKS = 3000;
    // Of the 512 calls that are promised some are left for a look at the marks at the end.
    private static final int CALLS_OF_WALK = 400;

    interface Question {
        long ask();
    }

    private final Random random;
    private final Post post = new Post();
    private final PlainPost plain = new PlainPost();
    private final int ports;
    private final int longestPass;
    private final int wrongOnceIn;

    private static final int[] SEEN = new int[8];
    private static int sentSix = 0;
    private static int overtakers = 0;
    private static int heldAgain = 0;
    private static int fullMail = 0;
    private static int cameDead = 0;

    private WalkTest(int seed) {
        random = new Random(seed);
        ports = 2 + random.nextInt(9);
        longestPass = 1 + random.nextInt(seed % 3 == 0 ? 60 : 6);
        wrongOnceIn = seed % 4 == 0 ? 5 : 100;
    }

    public static void main(String[] args) {
        for (int seed = 0; seed < WALKS; seed++) {
            WalkTest walk = new WalkTest(seed);
            walk.walk(seed);
            walk.note(seed);
        }
        for (int state = 0; state < SEEN.length; state++) {
            Check.is("state " + state + " was seen", SEEN[state] > 0, true);
        }
        Check.is("letters sent on 6 times were seen", sentSix > 0, true);
        Check.is("overtaking was seen", overtakers > 0, true);
        Check.is("letters held more than once were seen", heldAgain > 0, true);
        Check.is("40 letters were seen", fullMail > 0, true);
        Check.is("letters that die on coming were seen", cameDead > 0, true);
        Check.end();
    }

    private void walk(int seed) {
        int ships = random.nextInt(4);
        for (int i = 0; i < ships; i++) {
            same(seed + " addShip()", SeaPost::addShip, plain::addShip);
        }
        for (int i = 0; post.calls() < CALLS_OF_WALK; i++) {
            if (random.nextInt(2) == 0) {
                change(seed + "." + i + " ");
            } else {
                ask(seed + "." + i + " ");
            }
        }
    }

    private void change(String name) {
        int ship = ship();
        int port = port();
        switch (random.nextInt(12)) {
            case 0:
                if (random.nextInt(8) == 0) {
                    same(name + "addShip()", SeaPost::addShip, plain::addShip);
                }
                break;
            case 1:
            case 2:
            case 3:
                call(name, ship, port);
                break;
            case 4:
            case 5:
                same(name + "tell(" + ship + ", " + port + ")", p -> p.tell(ship, port), () -> plain.tell(ship, port));
                break;
            case 6:
            case 7:
                int home = random.nextBoolean() ? -1 : port();
                same(name + "post(" + port + ", " + ship + ", " + home + ")", p -> p.post(port, ship, home),
                    () -> plain.post(port, ship, home));
                break;
            case 8:
                int shut = wrong() ? odd() : 1 + random.nextInt(random.nextInt(8) == 0 ? 60 : 4);
                same(name + "strike(" + port + ", " + shut + ")", p -> p.strike(port, shut), () -> plain.strike(port, shut));
                break;
            default:
                int days = wrong() ? odd() : 1 + random.nextInt(longestPass);
                same(name + "pass(" + days + ")", p -> p.pass(days), () -> plain.pass(days));
                break;
        }
    }

    private void call(String name, int ship, int port) {
        int arrives = wrong() ? odd() : Math.max(0, plain.today - 3 + random.nextInt(25));
        int stays = wrong() ? odd() : random.nextInt(random.nextInt(4) == 0 ? 31 : 4);
        same(name + "call(" + ship + ", " + port + ", " + arrives + ", " + stays + ")",
            p -> p.call(ship, port, arrives, stays), () -> plain.call(ship, port, arrives, stays));
    }

    private void ask(String name) {
        if (random.nextInt(5) < 2) {
            askOfShips(name);
        } else {
            askOfLetter(name);
        }
    }

    private void askOfShips(String name) {
        int ship = ship();
        int port = port();
        int place = wrong() ? odd() : random.nextInt(6);
        String of = "(" + ship + ", " + port + ", " + place + ")";
        switch (random.nextInt(9)) {
            case 0 -> same(name + "shipAt" + of, p -> p.shipAt(ship), () -> plain.shipAt(ship));
            case 1 -> same(name + "routes" + of, p -> p.routes(ship), () -> plain.routes(ship));
            case 2 -> same(name + "word" + of, p -> p.word(port, ship), () -> plain.word(port, ship));
            case 3 -> same(name + "behind" + of, p -> p.behind(ship), () -> plain.behind(ship));
            case 4 -> same(name + "isClosed" + of, p -> p.isClosed(port) ? 1 : 0, () -> plain.isClosed(port) ? 1 : 0);
            case 5 -> same(name + "lying" + of, p -> p.lying(port), () -> plain.lying(port));
            case 6 -> same(name + "deadAt" + of, p -> p.deadAt(place), () -> plain.deadAt(place));
            case 7 -> same(name + "deliveredAs" + of, p -> p.deliveredAs(ship, place), () -> plain.deliveredAs(ship, place));
            default -> {
                same(name + "today", SeaPost::today, plain::today);
                same(name + "letters", SeaPost::letters, plain::letters);
            }
        }
    }

    private void askOfLetter(String name) {
        int letter = wrong() ? odd() : random.nextInt(Math.max(1, plain.letters()));
        int place = wrong() ? odd() : random.nextInt(random.nextBoolean() ? 4 : 40);
        String of = "(" + letter + ", " + place + ")";
        switch (random.nextInt(9)) {
            case 0 -> same(name + "state" + of, p -> p.state(letter), () -> plain.state(letter));
            case 1 -> same(name + "where" + of, p -> p.where(letter), () -> plain.where(letter));
            case 2 -> same(name + "whereByMarks" + of, p -> p.whereByMarks(letter), () -> plain.where(letter));
            case 3 -> same(name + "comesTo" + of, p -> p.comesTo(letter), () -> plain.comesTo(letter));
            case 4 -> same(name + "sentOn" + of, p -> p.sentOn(letter), () -> plain.sentOn(letter));
            case 5 -> same(name + "overtaken" + of, p -> p.overtaken(letter), () -> plain.overtaken(letter));
            case 6 -> same(name + "marks" + of, p -> p.marks(letter), () -> plain.marks(letter));
            case 7 -> same(name + "markAt" + of, p -> p.markAt(letter, place), () -> plain.markAt(letter, place));
            default -> same(name + "written" + of, p -> p.written(letter, place), () -> plain.written(letter, place));
        }
    }

    private boolean wrong() {
        return random.nextInt(wrongOnceIn) == 0;
    }

    private int odd() {
        int[] odd = {-1, -2, 0, 6, 7, 8, 10, 20, 30, 31, 39, 40, 60, 61, 1000, 1001, Integer.MIN_VALUE, Integer.MAX_VALUE};
        return odd[random.nextInt(odd.length)];
    }

    private int port() {
        return wrong() ? odd() : random.nextInt(ports);
    }

    private int ship() {
        return wrong() ? odd() : random.nextInt(Math.max(1, plain.routes.size()));
    }

    private static String answerOfPlain(Question question) {
        try {
            return String.valueOf(question.ask());
        } catch (RuntimeException e) {
            return "throws." + e.getClass().getSimpleName();
        }
    }

    private void same(String name, Post.Use asked, Question due) {
        Check.is(name, post.answer(asked), answerOfPlain(due));
    }

    /** At the end of a walk letters are looked at while calls are left, and it is noted whether the walks come about. */
    private void note(int seed) {
        for (int n = 0; n < plain.letters(); n++) {
            PlainPost.Letter letter = plain.letters.get(n);
            if (post.calls() + letter.marks.length() + 3 <= Post.MOST_CALLS) {
                sameMarks(seed + " at the end, letter " + n, n);
            }
            SEEN[letter.state]++;
            sentSix += letter.sent == 6 && letter.state >= 5 ? 1 : 0;
            overtakers += plain.overtaken(n) > 0 ? 1 : 0;
            boolean twice = letter.marks.indexOf(PlainPost.HELD_SIGN) != letter.marks.lastIndexOf(PlainPost.HELD_SIGN);
            heldAgain += twice ? 1 : 0;
            boolean old = letter.state == 5 && letter.comesOn >= 0 && letter.marks.endsWith(plain.today + "+");
            cameDead += old ? 1 : 0;
        }
        fullMail += plain.letters() == 40 ? 1 : 0;
    }

    private void sameMarks(String name, int n) {
        same(name + ": whereByMarks", p -> p.whereByMarks(n), () -> plain.where(n));
        same(name + ": overtaken", p -> p.overtaken(n), () -> plain.overtaken(n));
        same(name + ": marks", p -> p.marks(n), () -> plain.marks(n));
        for (int i = 0; i < plain.marks(n); i++) {
            int index = i;
            same(name + ": markAt " + index, p -> p.markAt(n, index), () -> plain.markAt(n, index));
        }
    }
}
