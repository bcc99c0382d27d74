/** Promises 1 to 8: a new object, and ships and routes. */
public final class ShipsTest {
    public static void main(String[] args) {
        aNewObject();
        addShip();
        callCounts();
        callRanges();
        callOrder();
        callFirstException();
        tell();
        tellWithoutCalls();
        tellWrong();
        shipAt();
        routes();
        wordTravels();
        wordToldLaterComesSooner();
        wordWrong();
        behind();
        Check.end();
    }

    private static void aNewObject() {
        Post post = new Post();
        Check.is("today of a new object", post.today(), 0);
        Check.is("letters of a new object", post.letters(), 0);
        post.refuses("routes(0) of a new object", Check.INDEX, p -> p.routes(0));
        post.refuses("deadAt(0) of a new object", Check.INDEX, p -> p.deadAt(0));
        for (int port = 0; port < 10; port++) {
            Check.is("isClosed of a new object", post.isClosed(port), false);
            Check.is("lying of a new object", post.lying(port), 0);
        }
        Post other = new Post();
        post.addShip();
        post.pass(3);
        post.strike(1, 5);
        Check.is("today of another object", other.today(), 0);
        Check.is("isClosed of another object", other.isClosed(1), false);
        Check.is("first ship of another object", other.addShip(), 0);
    }

    private static void addShip() {
        Post post = new Post();
        for (int ship = 0; ship < 8; ship++) {
            Check.is("addShip", post.addShip(), ship);
            Check.is("routes of a new ship", post.routes(ship), 0);
        }
        post.refuses("a 9th ship", Check.STATE, SeaPost::addShip);
        post.refuses("routes(8)", Check.INDEX, p -> p.routes(8));
    }

    private static void callCounts() {
        Post post = new Post();
        post.addShip();
        post.addShip();
        for (int i = 0; i < 6; i++) {
            Check.is("call", post.call(0, 9 - i, 10 * i, 2), i + 1);
        }
        post.refuses("a 7th call", Check.STATE, p -> p.call(0, 0, 900, 0));
        Check.is("call of another ship", post.call(1, 0, 0, 0), 1);
        post.tell(0, 0);
        Check.is("call behind telling", post.call(0, 5, 0, 0), 1);
        post.tell(0, 0);
        Check.is("where the 2nd route goes", post.shipAt(0), 5);
    }

    private static void callRanges() {
        Post post = new Post();
        post.addShip();
        int[] noPorts = {-1, 10, Integer.MIN_VALUE, Integer.MAX_VALUE};
        for (int port : noPorts) {
            post.refuses("call at no port", Check.INDEX, p -> p.call(0, port, 0, 0));
        }
        int[] noShips = {-1, 1, Integer.MIN_VALUE, Integer.MAX_VALUE};
        for (int ship : noShips) {
            post.refuses("call of no ship", Check.INDEX, p -> p.call(ship, 0, 0, 0));
        }
        int[] noDays = {-1, 1001, Integer.MIN_VALUE, Integer.MAX_VALUE};
        for (int day : noDays) {
            post.refuses("call on no day", Check.ARGUMENT, p -> p.call(0, 0, day, 0));
        }
        int[] noStays = {-1, 31, Integer.MIN_VALUE, Integer.MAX_VALUE};
        for (int stay : noStays) {
            post.refuses("call with no stay", Check.ARGUMENT, p -> p.call(0, 0, 0, stay));
        }
        Check.is("call with the least numbers", post.call(0, 0, 0, 0), 1);
        Check.is("call with the greatest numbers", post.call(0, 9, 1000, 30), 2);
    }

    private static void callOrder() {
        Post post = new Post();
        post.addShip();
        post.call(0, 3, 4, 2);
        post.refuses("arriving with the call before", Check.STATE, p -> p.call(0, 4, 4, 0));
        post.refuses("arriving when the call before leaves", Check.STATE, p -> p.call(0, 4, 6, 0));
        post.refuses("arriving ahead of the call before", Check.STATE, p -> p.call(0, 4, 0, 0));
        Check.is("arriving behind the call before", post.call(0, 4, 7, 0), 2);
        Check.is("the same port again", post.call(0, 4, 8, 0), 3);
    }

    private static void callFirstException() {
        Post post = new Post();
        post.addShip();
        for (int i = 0; i < 6; i++) {
            post.call(0, 0, 10 + i, 0);
        }
        post.refuses("no ship, no day, a full draft", Check.INDEX, p -> p.call(1, 0, -1, 0));
        post.refuses("no port, no stay, a full draft", Check.INDEX, p -> p.call(0, 10, 0, 31));
        post.refuses("no day, a full draft", Check.ARGUMENT, p -> p.call(0, 0, 1001, 0));
        post.refuses("no stay, a full draft", Check.ARGUMENT, p -> p.call(0, 0, 5, -1));
    }

    private static void tell() {
        Post post = new Post();
        post.addShip();
        post.addShip();
        post.call(0, 7, 0, 3);
        Check.is("shipAt of a draft", post.shipAt(0), SeaPost.NONE);
        Check.is("first tell", post.tell(0, 2), 0);
        Check.is("shipAt when it is told", post.shipAt(0), 7);
        Check.is("second tell", post.tell(0, 4), 1);
        Check.is("first tell of another ship", post.tell(1, 4), 0);
    }

    private static void tellWithoutCalls() {
        Post post = new Post();
        post.addShip();
        post.call(0, 7, 0, 3);
        post.tell(0, 7);
        post.tell(0, 7);
        Check.is("shipAt by a route without calls", post.shipAt(0), SeaPost.NONE);
        Check.is("word of a route without calls", post.word(7, 0), 1);
        post.post(7, 0, SeaPost.NONE);
        Check.is("a letter by a route without calls", post.state(0), SeaPost.LOST);
    }

    private static void tellWrong() {
        Post post = new Post();
        post.addShip();
        for (int i = 0; i < 20; i++) {
            Check.is("tell", post.tell(0, i % 10), i);
        }
        post.call(0, 3, 0, 30);
        post.refuses("a 21st route", Check.STATE, p -> p.tell(0, 0));
        Check.is("the draft is kept", post.call(0, 3, 31, 0), 2);
        post.refuses("no ship", Check.INDEX, p -> p.tell(1, 0));
        post.refuses("a ship below 0", Check.INDEX, p -> p.tell(-1, 0));
        post.refuses("no port, 20 routes", Check.INDEX, p -> p.tell(0, 10));
        post.refuses("a port below 0, 20 routes", Check.INDEX, p -> p.tell(0, -1));
    }

    private static void shipAt() {
        Post post = new Post();
        post.addShip();
        Check.is("shipAt without routes", post.shipAt(0), SeaPost.NONE);
        post.call(0, 0, 1, 0);
        post.call(0, 6, 3, 2);
        post.tell(0, 9);
        int[] due = {-1, 0, -1, 6, 6, 6, -1};
        for (int day = 0; day < due.length; day++) {
            Check.is("shipAt on day " + day, post.shipAt(0), due[day]);
            post.pass(1);
        }
        post.refuses("shipAt(1)", Check.INDEX, p -> p.shipAt(1));
        post.refuses("shipAt(-1)", Check.INDEX, p -> p.shipAt(-1));
        post.call(0, 8, 0, 30);
        post.tell(0, 9);
        Check.is("shipAt by a new route, begun ahead of today", post.shipAt(0), 8);
    }

    private static void routes() {
        Post post = new Post();
        post.addShip();
        post.addShip();
        post.call(0, 0, 1, 0);
        Check.is("routes with a draft", post.routes(0), 0);
        post.tell(0, 0);
        post.tell(0, 0);
        Check.is("routes", post.routes(0), 2);
        Check.is("routes of the other ship", post.routes(1), 0);
        post.refuses("routes(2)", Check.INDEX, p -> p.routes(2));
        post.refuses("routes(-1)", Check.INDEX, p -> p.routes(-1));
    }

    private static void wordTravels() {
        Post post = new Post();
        post.addShip();
        post.tell(0, 0);
        // The days that word takes to a port that is so many numbers away.
        int[] takes = {0, 1, 1, 1, 2, 2, 2, 3, 3, 3};
        for (int day = 0; day < 5; day++) {
            for (int port = 0; port < 10; port++) {
                Check.is("word in " + port + " on day " + day, post.word(port, 0), day >= takes[port] ? 0 : -1);
            }
            post.pass(1);
        }
    }

    private static void wordToldLaterComesSooner() {
        Post post = new Post();
        post.addShip();
        post.tell(0, 0);
        post.pass(1);
        post.tell(0, 9);
        Check.is("word in 9 at once", post.word(9, 0), 1);
        Check.is("word in 1, told first", post.word(1, 0), 0);
        Check.is("word in 5, none yet", post.word(5, 0), -1);
        post.pass(2);
        Check.is("word in 9 when the older one comes", post.word(9, 0), 1);
        Check.is("word in 5, the one told last", post.word(5, 0), 1);
        Check.is("word in 0, still the first", post.word(0, 0), 0);
        post.pass(1);
        Check.is("word in 0, the one told last", post.word(0, 0), 1);
    }

    private static void wordWrong() {
        Post post = new Post();
        post.addShip();
        Check.is("word without routes", post.word(9, 0), SeaPost.NONE);
        post.refuses("word in port 10", Check.INDEX, p -> p.word(10, 0));
        post.refuses("word in port -1", Check.INDEX, p -> p.word(-1, 0));
        post.refuses("word of ship 1", Check.INDEX, p -> p.word(0, 1));
        post.refuses("word of ship -1", Check.INDEX, p -> p.word(0, -1));
    }

    private static void behind() {
        Post post = new Post();
        post.addShip();
        Check.is("behind without routes", post.behind(0), 0);
        post.tell(0, 0);
        int[] due = {9, 6, 3, 0, 0};
        for (int i = 0; i < due.length; i++) {
            Check.is("behind on day " + i, post.behind(0), due[i]);
            post.pass(1);
        }
        post.tell(0, 5);
        Check.is("behind a second route", post.behind(0), 9);
        post.pass(1);
        Check.is("behind it a day later", post.behind(0), 3);
        post.refuses("behind(1)", Check.INDEX, p -> p.behind(1));
        post.refuses("behind(-1)", Check.INDEX, p -> p.behind(-1));
    }
}
