/** Promises 24 to 26: each boundary that they name, at the last value that is in and at the first that is out. */
public final class MarksEdgesTest {
    private static final int NONE = SeaPost.NONE;
    private static final String SIGN = new String(Character.toChars(128683));

    public static void main(String[] args) {
        lengthByTheDayOfPosting();
        lengthGrowsByWhatIsWritten();
        portsAreWrittenAsLetters();
        numbersOfComing();
        theSignTakesTwoChars();
        heldIsWrittenWhenItWasNotHeld();
        indexFrom0ToTheLast();
        indexOfTheLongestMarks();
        chars();
        placeFrom0ToTheLast();
        placesOfOneThatWasPostedAlone();
        placesOfSixSendings();
        homeCountsAsOne();
        struckOutOrNot();
        lettersOfTheirOwn();
        Check.end();
    }

    private static void lengthByTheDayOfPosting() {
        int[] days = {0, 9, 10, 99, 100, 999, 1000};
        int[] due = {2, 2, 3, 3, 4, 4, 5};
        Post post = Make.ships(1);
        for (int i = 0; i < days.length; i++) {
            Make.goTo(post, days[i]);
            int letter = post.post(6, 0, NONE);
            Check.is("marks on day " + days[i], post.marks(letter), due[i]);
            Check.is("what is written", post.marksOf(letter), "G" + days[i]);
        }
    }

    private static void lengthGrowsByWhatIsWritten() {
        Post post = Make.route(0, 1, 70, 0);
        post.post(0, 0, 4);
        Check.is("posted and sent", post.marks(0), 5);
        post.pass(1);
        Check.is("at sea", post.marks(0), 5);
        post.pass(1);
        Check.is("it came on day 2", post.marks(0), 6);
        post.pass(1);
        Check.is("it waits", post.marks(0), 6);
        post.strike(1, 2);
        Check.is("a strike begins", post.marks(0), 6);
        post.pass(1);
        Check.is("it is held", post.marks(0), 8);
        post.pass(1);
        Check.is("it waits again", post.marks(0), 8);
        post.tell(0, 1);
        post.pass(1);
        Check.is("it is lost", post.marks(0), 8);
        Make.goTo(post, 59);
        Check.is("it is lost still", post.marks(0), 8);
        post.pass(1);
        Check.is("it is dead and returned", post.marks(0), 11);
        post.pass(60);
        Check.is("it is returned for ever", post.marks(0), 11);
        Check.is("all of it", post.marksOf(0), "-A0>B2" + SIGN + "+<E");
    }

    private static void portsAreWrittenAsLetters() {
        for (int port = 0; port < 10; port++) {
            Post post = Make.route(port, 9 - port, 0, 30);
            post.post(port, 0, port);
            String here = String.valueOf("ABCDEFGHIJ".charAt(port));
            String there = String.valueOf("ABCDEFGHIJ".charAt(9 - port));
            Check.is("sent from " + port, post.marksOf(0), "-" + here + "0>" + there);
            post.strike(9 - port, 60);
            post.pass(20);
            post.strike(9 - port, 60);
            Make.goTo(post, 80);
            Check.is("dead when it came, returned", post.marksOf(0), "-" + here + "0>" + there + "80+<" + here);
        }
    }

    private static void numbersOfComing() {
        int[] days = {9, 10, 99, 100, 999, 1000};
        for (int day : days) {
            Post post = Make.ships(1);
            Make.goTo(post, day - 2);
            Make.tell(post, 0, 3, 2, day, 0);
            post.post(3, 0, NONE);
            post.pass(1);
            Check.is("on the way until " + day, post.marksOf(0), "-D" + (day - 2) + ">C");
            post.pass(1);
            Check.is("came on " + day, post.marksOf(0), "-D" + (day - 2) + ">C" + day + "!");
        }
    }

    private static void theSignTakesTwoChars() {
        Post post = Make.ships(1);
        post.strike(3, 1);
        post.post(3, 0, NONE);
        Check.is("length", post.marks(0), 4);
        Check.is("the first char", post.markAt(0, 2), 0xD83D);
        Check.is("the second char", post.markAt(0, 3), 0xDEAB);
        Check.is("both", Character.toCodePoint(post.markAt(0, 2), post.markAt(0, 3)), 128683);
        post.refuses("a third char", Check.INDEX, p -> p.markAt(0, 4));
    }

    private static void heldIsWrittenWhenItWasNotHeld() {
        Post post = Make.route(3, 3, 50, 0);
        post.post(3, 0, NONE);
        post.post(9, 0, NONE);
        post.strike(3, 3);
        post.strike(9, 3);
        post.post(3, 0, NONE);
        Check.is("posted into a strike", post.marksOf(2), "D0" + SIGN);
        post.pass(1);
        Check.is("it waited", post.marksOf(0), "D0" + SIGN);
        Check.is("it was lost", post.marksOf(1), "J0" + SIGN);
        Check.is("it was held", post.marksOf(2), "D0" + SIGN);
        post.pass(1);
        Check.is("it was held again", post.marksOf(0), "D0" + SIGN);
        post.strike(3, 2);
        post.pass(1);
        Check.is("a strike ends when a longer one goes on", post.marksOf(0), "D0" + SIGN);
        post.pass(1);
        Check.is("it waits", post.state(0), SeaPost.WAITS);
        post.strike(3, 2);
        post.pass(1);
        Check.is("held a second time", post.marksOf(0), "D0" + SIGN + SIGN);
        Check.is("the one posted into the strike too", post.marksOf(2), "D0" + SIGN + SIGN);
    }

    private static void indexFrom0ToTheLast() {
        Post post = Make.route(0, 9, 0, 30);
        post.post(9, 0, NONE);
        post.post(0, 0, NONE);
        String[] due = {"J0!", "-A0>J"};
        for (int letter = 0; letter < 2; letter++) {
            int asked = letter;
            for (int i = 0; i < due[letter].length(); i++) {
                Check.is("markAt " + i, post.markAt(letter, i), due[letter].charAt(i));
            }
            for (int index : Make.outside(0, due[letter].length() - 1)) {
                post.refuses("markAt " + index, Check.INDEX, p -> p.markAt(asked, index));
                post.refuses("markAt " + index + " of no letter", Check.INDEX, p -> p.markAt(2, index));
            }
        }
    }

    /** As many chars as a letter can have: held every second day, sent on six times on days of three digits. */
    private static void indexOfTheLongestMarks() {
        Post post = Make.ships(1);
        Make.goTo(post, 935);
        Make.tell(post, 0, 0, 0, 999, 0);
        post.strike(0, 1);
        post.post(0, 0, 9);
        StringBuilder due = new StringBuilder("A935" + SIGN);
        int here = 0;
        for (int day = 936; day < 972; day += 2) {
            post.pass(1);
            post.strike(here, 2);
            post.pass(1);
            due.append(SIGN);
        }
        // On day 971 it is held; it is sent on day 972, and comes on 974, 976 and so on.
        for (int times = 0; times < 6; times++) {
            Make.tell(post, 0, here, 1 - here, 999, 0);
            post.pass(times == 0 ? 1 : 2);
            due.append(times == 0 ? "" : String.valueOf(972 + 2 * times));
            due.insert(due.lastIndexOf(String.valueOf((char) ('A' + here))), '-');
            here = 1 - here;
            due.append('>').append((char) ('A' + here));
        }
        Make.tell(post, 0, here, here, 999, 0);
        post.pass(2);
        due.append(984);
        for (int day = 984; day < 994; day += 2) {
            post.strike(here, 2);
            post.pass(1);
            due.append(SIGN);
            post.pass(1);
        }
        post.pass(1);
        due.append('+');
        Check.is("marks on the day of its death", post.marksOf(0), due.toString());
        post.pass(5);
        due.append("<J");
        Check.is("marks at home", post.marksOf(0), due.toString());
        Check.is("length", post.marks(0), due.length());
        Check.is("the last char", post.markAt(0, due.length() - 1), 'J');
        post.refuses("the char behind it", Check.INDEX, p -> p.markAt(0, due.length()));
        Check.is("all ports", post.written(0, 7), 1);
        post.refuses("a ninth port", Check.INDEX, p -> p.written(0, 8));
    }

    private static void chars() {
        Post post = Make.route(3, 3, 0, 0);
        post.post(3, 0, NONE);
        post.post(9, 0, NONE);
        post.post(9, 0, 0);
        Check.is("delivered", post.markAt(0, 2), '!');
        post.refuses("behind it", Check.INDEX, p -> p.markAt(0, 3));
        Make.goTo(post, 60);
        Check.is("dead", post.markAt(1, 2), '+');
        Check.is("burnt", post.markAt(1, 3), '*');
        post.refuses("behind burning", Check.INDEX, p -> p.markAt(1, 4));
        Check.is("returned", post.markAt(2, 3), '<');
        Check.is("its home", post.markAt(2, 4), 'A');
        post.refuses("behind its home", Check.INDEX, p -> p.markAt(2, 5));
    }

    private static void placeFrom0ToTheLast() {
        Post post = Make.route(4, 2, 90, 0);
        post.post(4, 0, NONE);
        int[] due = {20, 41};
        for (int place = 0; place < due.length; place++) {
            Check.is("written " + place, post.written(0, place), due[place]);
        }
        for (int place : Make.outside(0, 1)) {
            post.refuses("written " + place, Check.INDEX, p -> p.written(0, place));
            post.refuses("written " + place + " of no letter", Check.INDEX, p -> p.written(1, place));
        }
    }

    private static void placesOfOneThatWasPostedAlone() {
        for (int port = 0; port < 10; port++) {
            Post post = Make.ships(1);
            post.post(port, 0, NONE);
            Check.is("written 0", post.written(0, 0), 10 * port);
            for (int place : Make.outside(0, 0)) {
                post.refuses("written " + place, Check.INDEX, p -> p.written(0, place));
            }
        }
    }

    private static void placesOfSixSendings() {
        Post post = Make.sentSixTimes();
        int[] due = {0, 11, 1, 11, 1, 11, 1};
        for (int place = 0; place < due.length; place++) {
            Check.is("written " + place, post.written(0, place), due[place]);
        }
        for (int place : Make.outside(0, 6)) {
            post.refuses("written " + place, Check.INDEX, p -> p.written(0, place));
        }
        post.pass(2);
        Check.is("dead, the last port is not struck out", post.written(0, 0), 0);
        post.refuses("dead, an eighth port", Check.INDEX, p -> p.written(0, 7));
        post.pass(8);
        Check.is("returned, its home is the latest", post.written(0, 0), 70);
        Check.is("returned, the first port is the eighth", post.written(0, 7), 1);
        post.refuses("returned, a ninth port", Check.INDEX, p -> p.written(0, 8));
    }

    private static void homeCountsAsOne() {
        Post post = Make.ships(1);
        post.pass(1);
        post.post(9, 0, 0);
        post.post(9, 0, NONE);
        Make.goTo(post, 69);
        Check.is("dead, the port", post.written(0, 0), 90);
        post.refuses("dead, its home is not written", Check.INDEX, p -> p.written(0, 1));
        post.pass(1);
        Check.is("returned, its home", post.written(0, 0), 0);
        Check.is("returned, the port", post.written(0, 1), 90);
        post.refuses("returned, a third one", Check.INDEX, p -> p.written(0, 2));
        Check.is("burnt, the port", post.written(1, 0), 90);
        post.refuses("burnt, no home", Check.INDEX, p -> p.written(1, 1));
    }

    private static void struckOutOrNot() {
        Post post = Make.route(0, 9, 60, 0);
        post.post(9, 0, NONE);
        Check.is("lost", post.written(0, 0), 90);
        post.post(0, 0, NONE);
        Check.is("sent to", post.written(1, 0), 90);
        Check.is("sent from", post.written(1, 1), 1);
        post.pass(10);
        Check.is("came", post.written(1, 0), 90);
        Make.tell(post, 0, 9, 0, 60, 0);
        post.pass(1);
        Check.is("sent back to", post.written(1, 0), 0);
        Check.is("sent back from", post.written(1, 1), 91);
        Check.is("sent from at first", post.written(1, 2), 1);
        Check.is("the one that was lost, sent to", post.written(0, 0), 0);
        Check.is("the one that was lost, sent from", post.written(0, 1), 91);
    }

    private static void lettersOfTheirOwn() {
        Post post = Make.ships(1);
        for (int i = 0; i < 40; i++) {
            post.post(i % 10, 0, NONE);
        }
        for (int letter : Make.outside(0, 39)) {
            Check.is("marks of " + letter, post.answer(p -> p.marks(letter)), "throws." + Check.INDEX);
            Check.is("markAt of " + letter, post.answer(p -> p.markAt(letter, 0)), "throws." + Check.INDEX);
            Check.is("written of " + letter, post.answer(p -> p.written(letter, 0)), "throws." + Check.INDEX);
        }
        for (int letter = 0; letter < 40; letter++) {
            Check.is("marks of " + letter, post.marks(letter), 2);
            Check.is("markAt of " + letter, post.markAt(letter, 0), 'A' + letter % 10);
            Check.is("written of " + letter, post.written(letter, 0), 10 * (letter % 10));
        }
    }
}
