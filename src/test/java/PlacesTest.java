/** Promises 14 to 23: where letters are. */
public final class PlacesTest {
    private static final int[] NO_LETTERS = {-1, 8, Integer.MIN_VALUE, Integer.MAX_VALUE};

    public static void main(String[] args) {
        letters();
        allStates();
        whereAndMarksAgree();
        comesTo();
        sentOn();
        overtaken();
        overtakenOnTheSameDay();
        overtakenOfAnotherShip();
        lying();
        deadAt();
        deadAtInTheOrderOfDying();
        deliveredAs();
        Check.end();
    }

    /** On day 64, letters 0 to 7: one in each of the states; those that died were posted first. */
    private static Post withAllStates() {
        Post post = new Post();
        post.addShip();
        post.addShip();
        post.addShip();
        post.post(6, 0, 4);
        post.post(7, 0, SeaPost.NONE);
        post.pass(3);
        post.post(5, 0, 2);
        post.pass(57);
        post.call(1, 3, 60, 2);
        post.call(1, 8, 80, 0);
        post.tell(1, 3);
        post.post(3, 1, 1);
        post.pass(3);
        post.post(8, 1, 1);
        post.post(0, 2, 1);
        post.post(3, 1, 1);
        post.strike(9, 50);
        post.post(9, 1, 1);
        post.pass(1);
        return post;
    }

    private static void letters() {
        Post post = new Post();
        post.addShip();
        Check.is("letters at first", post.letters(), 0);
        post.post(0, 0, 0);
        post.post(0, 0, 0);
        Check.is("letters", post.letters(), 2);
        post.refuses("post at no port", Check.INDEX, p -> p.post(-1, 0, 0));
        Check.is("letters after a wrong post", post.letters(), 2);
    }

    private static void allStates() {
        Post post = withAllStates();
        Check.is("today", post.today(), 64);
        int[] states = {SeaPost.RETURNED, SeaPost.BURNT, SeaPost.DEAD, SeaPost.DELIVERED, SeaPost.WAITS, SeaPost.LOST,
            SeaPost.AT_SEA, SeaPost.HELD};
        int[] places = {4, SeaPost.OFFICE, SeaPost.OFFICE, SeaPost.ABOARD, 8, 0, SeaPost.SEA, 9};
        for (int letter = 0; letter < 8; letter++) {
            Check.is("state of " + letter, post.state(letter), states[letter]);
            Check.is("where of " + letter, post.where(letter), places[letter]);
            Check.is("whereByMarks of " + letter, post.whereByMarks(letter), places[letter]);
        }
        for (int letter : NO_LETTERS) {
            post.refuses("state of no letter", Check.INDEX, p -> p.state(letter));
            post.refuses("where of no letter", Check.INDEX, p -> p.where(letter));
            post.refuses("whereByMarks of no letter", Check.INDEX, p -> p.whereByMarks(letter));
            post.refuses("comesTo of no letter", Check.INDEX, p -> p.comesTo(letter));
            post.refuses("sentOn of no letter", Check.INDEX, p -> p.sentOn(letter));
            post.refuses("overtaken of no letter", Check.INDEX, p -> p.overtaken(letter));
        }
    }

    private static void whereAndMarksAgree() {
        Post post = new Post();
        post.addShip();
        post.call(0, 9, 30, 0);
        post.tell(0, 0);
        post.post(0, 0, 0);
        post.strike(9, 12);
        for (int day = 0; day < 30; day++) {
            Check.is("whereByMarks on day " + day, post.whereByMarks(0), post.where(0));
            Check.is("where on day " + day, post.where(0), day < 12 ? SeaPost.SEA : 9);
            if (day == 15) {
                post.strike(9, 5);
            }
            post.pass(1);
        }
        Check.is("aboard", post.whereByMarks(0), SeaPost.ABOARD);
    }

    private static void comesTo() {
        Post post = new Post();
        post.addShip();
        post.call(0, 0, 50, 0);
        post.tell(0, 9);
        post.pass(3);
        post.post(9, 0, 0);
        post.post(0, 0, 0);
        Check.is("comesTo port 0", post.comesTo(0), 1300);
        Check.is("comesTo of one that waits", post.comesTo(1), SeaPost.NONE);
        post.pass(9);
        Check.is("comesTo a day ahead", post.comesTo(0), 1300);
        post.pass(1);
        Check.is("comesTo when it came", post.comesTo(0), SeaPost.NONE);
        Check.is("where it came", post.where(0), 0);
    }

    private static void sentOn() {
        Post post = new Post();
        post.addShip();
        post.call(0, 2, 10, 0);
        post.tell(0, 0);
        post.post(0, 0, 0);
        Check.is("sentOn at first", post.sentOn(0), 1);
        post.post(9, 0, 0);
        Check.is("sentOn of a lost one", post.sentOn(1), 0);
        post.call(0, 6, 20, 0);
        post.tell(0, 2);
        post.pass(3);
        Check.is("sentOn a second time", post.sentOn(0), 2);
        post.pass(17);
        Check.is("sentOn when delivered", post.sentOn(0), 2);
        Check.is("state", post.state(0), SeaPost.DELIVERED);
    }

    /** Three letters to port 9: the farther one is posted, the later it comes. */
    private static Post withOvertaking() {
        Post post = new Post();
        post.addShip();
        post.addShip();
        post.call(0, 9, 2, 20);
        post.tell(0, 9);
        post.pass(3);
        post.post(0, 0, 0);
        post.post(5, 0, 0);
        post.post(8, 0, 0);
        post.post(9, 0, 0);
        return post;
    }

    private static void overtaken() {
        Post post = withOvertaking();
        Check.is("letter 3 is delivered, the others are not", post.overtaken(3), 0);
        Check.is("letter 2 is not delivered", post.overtaken(2), 0);
        post.pass(2);
        Check.is("letter 2 is delivered behind 3", post.overtaken(2), 0);
        Check.is("letter 3 has overtaken 2", post.overtaken(3), 1);
        post.pass(20);
        Check.is("letter 0", post.overtaken(0), 0);
        Check.is("letter 1", post.overtaken(1), 1);
        Check.is("letter 2", post.overtaken(2), 2);
        Check.is("letter 3", post.overtaken(3), 3);
    }

    private static void overtakenOnTheSameDay() {
        Post post = new Post();
        post.addShip();
        post.call(0, 1, 5, 0);
        post.tell(0, 1);
        post.pass(1);
        post.post(1, 0, 0);
        post.post(0, 0, 0);
        post.pass(10);
        Check.is("delivered on one day", post.deliveredAs(0, 1), 1);
        Check.is("the first", post.overtaken(0), 0);
        Check.is("the second", post.overtaken(1), 0);
    }

    private static void overtakenOfAnotherShip() {
        Post post = new Post();
        post.addShip();
        post.addShip();
        post.call(0, 1, 5, 0);
        post.tell(0, 1);
        post.call(1, 1, 0, 0);
        post.tell(1, 1);
        post.post(1, 0, 0);
        post.post(1, 1, 0);
        post.pass(10);
        Check.is("both are delivered", post.state(0) + post.state(1), 2L * SeaPost.DELIVERED);
        Check.is("for another ship", post.overtaken(1), 0);
    }

    private static void lying() {
        Post post = withAllStates();
        int[] due = {1, 0, 0, 0, 0, 0, 0, 0, 1, 1};
        for (int port = 0; port < 10; port++) {
            Check.is("lying in " + port, post.lying(port), due[port]);
        }
        post.post(0, 2, 3);
        Check.is("one more in 0", post.lying(0), 2);
        Post other = new Post();
        other.addShip();
        other.post(4, 0, 3);
        Check.is("letter 0 lies in 4", other.lying(4), 1);
        Check.is("it does not lie at home", other.lying(3), 0);
        post.refuses("lying(10)", Check.INDEX, p -> p.lying(10));
        post.refuses("lying(-1)", Check.INDEX, p -> p.lying(-1));
    }

    private static void deadAt() {
        Post post = withAllStates();
        Check.is("deadAt(0)", post.deadAt(0), 2);
        post.refuses("deadAt(1)", Check.INDEX, p -> p.deadAt(1));
        post.refuses("deadAt(-1)", Check.INDEX, p -> p.deadAt(-1));
        post.refuses("deadAt of the least int", Check.INDEX, p -> p.deadAt(Integer.MIN_VALUE));
        post.pass(6);
        post.refuses("deadAt(0) when the office has opened it", Check.INDEX, p -> p.deadAt(0));
    }

    /** Letter 1 dies ahead of letter 0, which is at sea for long. */
    private static void deadAtInTheOrderOfDying() {
        Post post = new Post();
        post.addShip();
        post.addShip();
        post.call(0, 9, 0, 30);
        post.tell(0, 0);
        post.pass(2);
        post.post(0, 0, 1);
        post.post(0, 1, 1);
        post.post(0, 1, 1);
        post.strike(9, 60);
        post.pass(2);
        post.strike(9, 60);
        post.pass(58);
        Check.is("first dead", post.deadAt(0), 1);
        Check.is("second dead", post.deadAt(1), 2);
        Check.is("letter 0 is at sea", post.state(0), SeaPost.AT_SEA);
        post.pass(2);
        Check.is("first dead still", post.deadAt(0), 1);
        Check.is("third dead", post.deadAt(2), 0);
        post.pass(6);
        Check.is("all are returned", post.state(0) + post.state(1) + post.state(2), 3L * SeaPost.RETURNED);
    }

    private static void deliveredAs() {
        Post post = withOvertaking();
        post.pass(30);
        int[] due = {3, 2, 1, 0, SeaPost.NONE, SeaPost.NONE};
        for (int place = 0; place < due.length; place++) {
            Check.is("deliveredAs " + place, post.deliveredAs(0, place), due[place]);
        }
        Check.is("deliveredAs of the greatest int", post.deliveredAs(0, Integer.MAX_VALUE), SeaPost.NONE);
        Check.is("deliveredAs of another ship", post.deliveredAs(1, 0), SeaPost.NONE);
        post.refuses("place -1", Check.ARGUMENT, p -> p.deliveredAs(0, -1));
        post.refuses("the least place", Check.ARGUMENT, p -> p.deliveredAs(0, Integer.MIN_VALUE));
        post.refuses("no ship", Check.INDEX, p -> p.deliveredAs(2, 0));
        post.refuses("no ship and place -1", Check.INDEX, p -> p.deliveredAs(-1, -1));
    }
}
