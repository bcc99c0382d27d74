/** Promises 24 to 26: the marks on the covers. */
public final class MarksTest {
    private static final int[] NO_LETTERS = {-1, 1, Integer.MIN_VALUE, Integer.MAX_VALUE};

    public static void main(String[] args) {
        marksGrow();
        numbersOfDays();
        markAt();
        heldSign();
        written();
        writtenHome();
        mostMarks();
        Check.end();
    }

    private static void tellCall(Post post, int toldAt, int port, int arrives) {
        post.call(0, port, arrives, 0);
        post.tell(0, toldAt);
    }

    private static Post sentTwice() {
        Post post = new Post();
        post.addShip();
        tellCall(post, 0, 2, 90);
        post.pass(9);
        post.post(0, 0, 3);
        tellCall(post, 2, 9, 95);
        post.pass(3);
        return post;
    }

    private static void marksGrow() {
        Post post = sentTwice();
        Check.is("marks", post.marksOf(0), "-A9>-C12>J");
        Check.is("length", post.marks(0), 10);
        post.pass(8);
        Check.is("marks when it came", post.marksOf(0), "-A9>-C12>J20");
        post.pass(48);
        Check.is("marks, unchanged", post.marksOf(0), "-A9>-C12>J20");
        post.pass(1);
        Check.is("marks when dead", post.marksOf(0), "-A9>-C12>J20+");
        post.pass(1);
        Check.is("marks when returned", post.marksOf(0), "-A9>-C12>J20+<D");
        for (int letter : NO_LETTERS) {
            post.refuses("marks of no letter", Check.INDEX, p -> p.marks(letter));
        }
    }

    private static void numbersOfDays() {
        Post post = new Post();
        post.addShip();
        int[] days = {0, 7, 10, 99, 100, 105, 909, 999, 1000};
        int letter = 0;
        for (int day : days) {
            while (post.today() < day) {
                post.pass(Math.min(60, day - post.today()));
            }
            post.post(letter, 0, 0);
            Check.is("marks on day " + day, post.marksOf(letter), (char) ('A' + letter) + "" + day);
            letter++;
        }
        post.post(9, 0, 0);
        Check.is("marks in port 9", post.marksOf(letter), "J1000");
    }

    private static void markAt() {
        Post post = sentTwice();
        String due = "-A9>-C12>J";
        for (int i = 0; i < due.length(); i++) {
            Check.is("markAt " + i, post.markAt(0, i), due.charAt(i));
        }
        int[] noIndexes = {-1, due.length(), 127, 128, Integer.MIN_VALUE, Integer.MAX_VALUE};
        for (int index : noIndexes) {
            post.refuses("markAt " + index, Check.INDEX, p -> p.markAt(0, index));
        }
        for (int letter : NO_LETTERS) {
            post.refuses("markAt of no letter", Check.INDEX, p -> p.markAt(letter, 0));
        }
    }

    private static void heldSign() {
        Post post = new Post();
        post.addShip();
        post.strike(6, 2);
        post.post(6, 0, 0);
        Check.is("two chars", post.marks(0), 4);
        String sign = new String(Character.toChars(128683));
        Check.is("first char", post.markAt(0, 2), sign.charAt(0));
        Check.is("second char", post.markAt(0, 3), sign.charAt(1));
        Check.is("whereByMarks behind the sign", post.whereByMarks(0), 6);
        Check.is("written behind the sign", post.written(0, 0), 60);
        post.refuses("no other port", Check.INDEX, p -> p.written(0, 1));
    }

    private static void written() {
        Post post = sentTwice();
        int[] due = {90, 21, 1};
        for (int place = 0; place < due.length; place++) {
            Check.is("written " + place, post.written(0, place), due[place]);
        }
        int[] noPlaces = {-1, 3, Integer.MIN_VALUE, Integer.MAX_VALUE};
        for (int place : noPlaces) {
            post.refuses("written " + place, Check.INDEX, p -> p.written(0, place));
        }
        for (int letter : NO_LETTERS) {
            post.refuses("written of no letter", Check.INDEX, p -> p.written(letter, 0));
        }
    }

    private static void writtenHome() {
        Post post = sentTwice();
        post.pass(60);
        int[] due = {30, 90, 21, 1};
        for (int place = 0; place < due.length; place++) {
            Check.is("written " + place + " when returned", post.written(0, place), due[place]);
        }
        post.refuses("written 4", Check.INDEX, p -> p.written(0, 4));
        Check.is("whereByMarks when returned", post.whereByMarks(0), 3);
    }

    /** As many marks as a letter can bear: strikes of one day, every second day, ports that change six times. */
    private static void mostMarks() {
        Post post = new Post();
        post.addShip();
        for (int i = 0; i < 15; i++) {
            post.pass(60);
        }
        post.pass(35);
        tellCall(post, 0, 0, 999);
        String sign = new String(Character.toChars(128683));
        StringBuilder due = new StringBuilder("A935");
        post.strike(0, 1);
        post.post(0, 0, 9);
        due.append(sign);
        int here = 0;
        int sent = 0;
        while (post.today() < 990) {
            post.pass(1);
            if (post.state(0) == SeaPost.WAITS && sent < 6 && post.today() > 960) {
                due.insert(due.lastIndexOf(String.valueOf((char) ('A' + here))), '-');
                here = 1 - here;
                sent++;
                tellCall(post, 1 - here, here, 999);
                due.append('>').append((char) ('A' + here)).append(post.today() + 3);
                post.pass(3);
            } else if (post.state(0) == SeaPost.WAITS) {
                post.strike(here, 2);
                due.append(sign);
                post.pass(1);
            }
            Check.is("marks on day " + post.today(), post.marksOf(0), due.toString());
        }
        Check.is("sent on", sent, 6);
        post.pass(994 - post.today());
        Check.is("marks on its last day", post.marksOf(0), due.toString());
        post.pass(1);
        Check.is("dead at last", post.marksOf(0), due + "+");
        post.pass(5);
        Check.is("home at last", post.marksOf(0), due + "+<J");
        Check.is("found at home", post.whereByMarks(0), 9);
    }
}
