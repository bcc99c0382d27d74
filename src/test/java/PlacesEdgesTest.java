/** Promises 14 to 23: each boundary that they name, at the last value that is in and at the first that is out. */
public final class PlacesEdgesTest {
    private static final int NONE = SeaPost.NONE;

    public static void main(String[] args) {
        lettersFrom0To40();
        lettersThatAreAsked();
        stateAndPlaceOfEach();
        placesInTheFirstAndInTheLastPort();
        homeOfTheReturned();
        placeByMarksOnEveryDay();
        placeByMarksWithManyMarks();
        comesToFromLeastToGreatest();
        comesToOnTheDayOfComing();
        comesToAClosedPort();
        comesToOfThoseNotAtSea();
        sentOnFrom0To6();
        overtakenFrom0To39();
        overtakenOnTheSameDayOrADayLater();
        overtakenOnlyByTheDelivered();
        overtakenOfTheSameShip();
        lyingFrom0To40();
        lyingInEachState();
        lyingAsksForAPort();
        deadAtWithoutTheDead();
        deadAtFromTheFirstToTheLast();
        deadAtUpTo40();
        deadAtInTheOrderOfDying();
        deadAtBehindTheOffice();
        deliveredAsFromTheFirstToNone();
        deliveredAsUpTo40();
        deliveredAsPlaceBelow0();
        deliveredAsOfAShip();
        deliveredAsByRisingNumbers();
        Check.end();
    }

    private static void lettersFrom0To40() {
        Post post = Make.ships(1);
        for (int i = 0; i < 40; i++) {
            Check.is("letters", post.letters(), i);
            post.post(9, 0, i % 2 == 0 ? 4 : NONE);
        }
        Check.is("40 letters", post.letters(), 40);
        post.refuses("a 41st letter", Check.STATE, p -> p.post(9, 0, 4));
        Check.is("40 letters still", post.letters(), 40);
        Make.goTo(post, 60);
        Check.is("40 letters, returned and burnt", post.letters(), 40);
    }

    private static void lettersThatAreAsked() {
        int[] sizes = {1, 2, 40};
        for (int letters : sizes) {
            Post post = Make.ships(1);
            for (int i = 0; i < letters; i++) {
                post.post(i % 10, 0, 0);
            }
            for (LetterUses use : LetterUses.values()) {
                for (int letter : Make.outside(0, letters - 1)) {
                    String due = "throws." + Check.INDEX;
                    Check.is(use + " of " + letter, post.again().answer(p -> use.of(p, letter, 0)), due);
                    Check.is(use + " of " + letter + ", place -1", post.again().answer(p -> use.of(p, letter, -1)), due);
                }
                post.refuses(use + " of the next letter", Check.INDEX, p -> use.of(p, letters, 0));
                String first = post.answer(p -> use.of(p, 0, 0));
                String last = post.answer(p -> use.of(p, letters - 1, 0));
                Check.is(use + " of the first is answered", first.startsWith("throws"), false);
                Check.is(use + " of the last is answered", last.startsWith("throws"), false);
            }
            Check.is("where the last is", post.where(letters - 1), (letters - 1) % 10);
        }
    }

    /** One ship in port 4 from day 10 on, one that never tells. Letter 0 changes through the states of its own. */
    private static void stateAndPlaceOfEach() {
        Post post = Make.ships(2);
        Make.tell(post, 0, 4, 4, 10, 2);
        post.post(4, 0, 6);
        sees(post, 0, SeaPost.WAITS, 4);
        post.strike(4, 2);
        sees(post, 0, SeaPost.WAITS, 4);
        post.pass(1);
        sees(post, 0, SeaPost.HELD, 4);
        post.pass(1);
        sees(post, 0, SeaPost.WAITS, 4);
        Make.tell(post, 0, 4, 7, 10, 0);
        post.pass(1);
        sees(post, 0, SeaPost.AT_SEA, SeaPost.SEA);
        post.pass(4);
        sees(post, 0, SeaPost.WAITS, 7);
        post.pass(2);
        sees(post, 0, SeaPost.WAITS, 7);
        post.pass(1);
        sees(post, 0, SeaPost.DELIVERED, SeaPost.ABOARD);
        post.pass(60);
        sees(post, 0, SeaPost.DELIVERED, SeaPost.ABOARD);
        post.pass(1);
        post.post(2, 1, 6);
        post.post(3, 1, NONE);
        sees(post, 1, SeaPost.LOST, 2);
        post.pass(59);
        sees(post, 1, SeaPost.LOST, 2);
        sees(post, 2, SeaPost.LOST, 3);
        post.pass(1);
        sees(post, 1, SeaPost.DEAD, SeaPost.OFFICE);
        sees(post, 2, SeaPost.DEAD, SeaPost.OFFICE);
        post.pass(8);
        sees(post, 1, SeaPost.DEAD, SeaPost.OFFICE);
        sees(post, 2, SeaPost.DEAD, SeaPost.OFFICE);
        post.pass(1);
        sees(post, 1, SeaPost.RETURNED, 6);
        sees(post, 2, SeaPost.BURNT, SeaPost.OFFICE);
    }

    private static void sees(Post post, int letter, int state, int place) {
        String name = " of " + letter + " on day " + post.today();
        Check.is("state" + name, post.state(letter), state);
        Check.is("where" + name, post.where(letter), place);
        Check.is("whereByMarks" + name, post.whereByMarks(letter), place);
    }

    private static void placesInTheFirstAndInTheLastPort() {
        for (int port = 0; port < 10; port++) {
            Post post = Make.ships(1);
            post.post(port, 0, 9 - port);
            sees(post, 0, SeaPost.LOST, port);
            post.strike(port, 1);
            post.post(port, 0, 9 - port);
            sees(post, 1, SeaPost.HELD, port);
            Make.tell(post, 0, port, port, 5, 0);
            post.pass(1);
            sees(post, 0, SeaPost.WAITS, port);
            sees(post, 1, SeaPost.WAITS, port);
        }
    }

    private static void homeOfTheReturned() {
        Post post = Make.ships(1);
        for (int home = NONE; home < 10; home++) {
            post.post(9, 0, home);
        }
        Make.goTo(post, 60);
        sees(post, 0, SeaPost.BURNT, SeaPost.OFFICE);
        for (int home = 0; home < 10; home++) {
            sees(post, home + 1, SeaPost.RETURNED, home);
        }
    }

    /** Through a strike on the way, one behind coming, a second sending, death and return. */
    private static void placeByMarksOnEveryDay() {
        Post post = Make.route(9, 0, 70, 0);
        post.post(9, 0, 5);
        post.strike(0, 13);
        for (int day = 0; day < 75; day++) {
            Check.is("whereByMarks on " + day, post.whereByMarks(0), post.where(0));
            if (day == 20) {
                post.strike(0, 3);
            }
            if (day == 30) {
                Make.tell(post, 0, 0, 8, 72, 0);
            }
            post.pass(1);
        }
        Check.is("returned at last", post.state(0), SeaPost.RETURNED);
        Check.is("sent on twice", post.sentOn(0), 2);
    }

    private static void placeByMarksWithManyMarks() {
        Post post = Make.sentSixTimes();
        Check.is("the sixth time at sea", post.whereByMarks(0), SeaPost.SEA);
        post.pass(1);
        Post delivered = post.again();
        Make.tell(delivered, 0, 0, 0, 12, 0);
        delivered.pass(1);
        sees(delivered, 0, SeaPost.DELIVERED, SeaPost.ABOARD);
        Post lost = post.again();
        lost.tell(0, 0);
        lost.pass(1);
        sees(lost, 0, SeaPost.LOST, 0);
        lost.strike(0, 2);
        lost.pass(1);
        sees(lost, 0, SeaPost.HELD, 0);
        post.pass(1);
        sees(post, 0, SeaPost.DEAD, SeaPost.OFFICE);
        post.pass(8);
        sees(post, 0, SeaPost.RETURNED, 7);
    }

    private static void comesToFromLeastToGreatest() {
        Post least = Make.route(1, 0, 2, 0);
        least.post(1, 0, NONE);
        Check.is("from 1 to 0 on day 0", least.comesTo(0), 200);
        Post farthest = Make.route(9, 0, 10, 0);
        farthest.post(9, 0, NONE);
        Check.is("from 9 to 0 on day 0", farthest.comesTo(0), 1000);
        Post greatest = Make.ships(1);
        Make.goTo(greatest, 1000);
        Make.tell(greatest, 0, 0, 9, 1000, 10);
        greatest.post(0, 0, NONE);
        Check.is("from 0 to 9 on day 1000", greatest.comesTo(0), 101009);
        Check.is("it is at sea", greatest.whereByMarks(0), SeaPost.SEA);
        Post over = Make.ships(1);
        Make.goTo(over, 1000);
        Make.tell(over, 0, 0, 9, 1000, 9);
        over.post(0, 0, NONE);
        Check.is("from 0 to 9, where the ship leaves on day 1009", over.comesTo(0), NONE);
    }

    private static void comesToOnTheDayOfComing() {
        Post post = Make.route(0, 4, 20, 0);
        Make.goTo(post, 5);
        post.post(0, 0, NONE);
        Check.is("comesTo when it leaves", post.comesTo(0), 1004);
        post.pass(4);
        Check.is("comesTo on the day ahead", post.comesTo(0), 1004);
        post.pass(1);
        Check.is("comesTo on the day of coming", post.comesTo(0), NONE);
        Make.tell(post, 0, 4, 3, 20, 0);
        post.pass(1);
        Check.is("comesTo when it is sent on", post.comesTo(0), 1303);
    }

    private static void comesToAClosedPort() {
        Post post = Make.route(0, 4, 20, 0);
        post.post(0, 0, NONE);
        post.strike(4, 8);
        for (int day = 0; day < 8; day++) {
            Check.is("comesTo on " + day, post.comesTo(0), 504);
            post.pass(1);
        }
        Check.is("comesTo when the port opens", post.comesTo(0), NONE);
    }

    private static void comesToOfThoseNotAtSea() {
        Post post = Make.route(4, 4, 0, 0, 4, 9, 0);
        post.post(4, 0, NONE);
        Check.is("comesTo, delivered", post.comesTo(0), NONE);
        post.pass(1);
        post.post(4, 0, NONE);
        Check.is("comesTo, waits", post.comesTo(1), NONE);
        post.post(9, 0, NONE);
        post.post(9, 0, 0);
        Check.is("comesTo, lost", post.comesTo(2), NONE);
        post.strike(4, 3);
        post.pass(1);
        Check.is("comesTo, held", post.comesTo(1), NONE);
        post.tell(0, 4);
        Make.goTo(post, 61);
        Check.is("comesTo, dead", post.comesTo(2), NONE);
        Make.goTo(post, 70);
        Check.is("comesTo, burnt", post.comesTo(2), NONE);
        Check.is("comesTo, returned", post.comesTo(3), NONE);
    }

    private static void sentOnFrom0To6() {
        Post post = Make.route(0, 1, 900, 0);
        post.post(1, 0, NONE);
        Check.is("sentOn, lost", post.sentOn(0), 0);
        post.post(0, 0, NONE);
        for (int times = 1; times <= 6; times++) {
            Check.is("sentOn", post.sentOn(1), times);
            Make.tell(post, 0, times % 2, 1 - times % 2, 900, 0);
            post.pass(2);
        }
        Check.is("sentOn, dead", post.sentOn(1), 6);
        Make.goTo(post, 20);
        Check.is("sentOn, burnt", post.sentOn(1), 6);
        Post delivered = Make.route(3, 3, 0, 0);
        delivered.post(3, 0, NONE);
        Check.is("sentOn, delivered at once", delivered.sentOn(0), 0);
    }

    /** 39 letters wait in port 3, the 40th is posted where the ship is ahead of that. */
    private static void overtakenFrom0To39() {
        Post post = Make.route(3, 3, 5, 0);
        for (int i = 0; i < 39; i++) {
            post.post(3, 0, NONE);
        }
        Make.tell(post, 0, 8, 8, 0, 2, 3, 5, 0);
        post.post(8, 0, NONE);
        Check.is("delivered first", post.deliveredAs(0, 0), 39);
        Check.is("none of them is delivered yet", post.overtaken(39), 0);
        post.pass(5);
        Check.is("it has overtaken all", post.overtaken(39), 39);
        for (int letter = 0; letter < 39; letter++) {
            Check.is("overtaken of " + letter, post.overtaken(letter), 0);
        }
    }

    private static void overtakenOnTheSameDayOrADayLater() {
        Post same = Make.route(3, 3, 5, 1);
        same.post(3, 0, NONE);
        Make.goTo(same, 5);
        same.post(3, 0, NONE);
        Check.is("both on day 5", same.overtaken(1), 0);
        Check.is("the first of them", same.overtaken(0), 0);
        Post later = Make.route(3, 3, 5, 1);
        later.strike(3, 5);
        later.post(3, 0, NONE);
        Make.goTo(later, 4);
        Make.tell(later, 0, 3, 6, 4, 0, 3, 5, 1);
        later.post(6, 0, NONE);
        later.pass(1);
        Check.is("one on day 4, one on day 5", later.overtaken(1), 1);
        Check.is("the one that was overtaken", later.overtaken(0), 0);
        Post earlier = Make.route(3, 3, 5, 1);
        earlier.post(3, 0, NONE);
        Make.goTo(earlier, 6);
        earlier.post(3, 0, NONE);
        Check.is("the greater number on a later day", earlier.overtaken(1), 0);
        Check.is("the smaller number on an earlier day", earlier.overtaken(0), 0);
    }

    private static void overtakenOnlyByTheDelivered() {
        Post post = Make.route(8, 8, 0, 2);
        post.post(1, 0, 4);
        post.post(8, 0, 4);
        post.post(1, 0, 4);
        Make.goTo(post, 70);
        Check.is("the first is returned", post.state(0), SeaPost.RETURNED);
        Check.is("the second has not overtaken it", post.overtaken(1), 0);
        Check.is("nor has the third, that was returned", post.overtaken(2), 0);
    }

    private static void overtakenOfTheSameShip() {
        Post post = Make.ships(2);
        Make.tell(post, 0, 3, 3, 5, 0);
        Make.tell(post, 1, 3, 3, 4, 0);
        post.post(3, 0, NONE);
        post.post(3, 1, NONE);
        Make.goTo(post, 5);
        Check.is("both are delivered", post.deliveredAs(0, 0) + post.deliveredAs(1, 0), 1);
        Check.is("for another ship", post.overtaken(1), 0);
    }

    private static void lyingFrom0To40() {
        Post post = Make.ships(1);
        for (int i = 0; i < 40; i++) {
            Check.is("lying in 9", post.lying(9), i);
            post.post(9, 0, NONE);
        }
        Check.is("lying in 9, all", post.lying(9), 40);
        Check.is("lying in 0", post.lying(0), 0);
        Make.goTo(post, 59);
        Check.is("lying in 9 on day 59", post.lying(9), 40);
        post.pass(1);
        Check.is("lying in 9 on day 60", post.lying(9), 0);
    }

    private static void lyingInEachState() {
        Post post = Make.route(5, 5, 0, 1, 5, 90, 0);
        post.post(5, 0, 5);
        Check.is("delivered", post.lying(5), 0);
        post.pass(2);
        post.post(5, 0, 5);
        Check.is("waits", post.lying(5), 1);
        post.strike(5, 2);
        post.post(5, 0, 5);
        Check.is("one is held, one waits", post.lying(5), 2);
        post.pass(1);
        Check.is("two are held", post.lying(5), 2);
        post.tell(0, 5);
        post.pass(1);
        Check.is("two are lost", post.lying(5), 2);
        Make.tell(post, 0, 5, 6, 90, 0);
        post.pass(1);
        Check.is("two are at sea", post.lying(5), 0);
        Check.is("they do not lie in 6", post.lying(6), 0);
        post.pass(2);
        Check.is("two wait in 6", post.lying(6), 2);
        Make.goTo(post, 61);
        Check.is("59 days old", post.lying(6), 2);
        post.pass(1);
        Check.is("dead", post.lying(6), 0);
        Make.goTo(post, 70);
        Check.is("returned to 5", post.where(1), 5);
        Check.is("returned, so it does not lie there", post.lying(5), 0);
    }

    private static void lyingAsksForAPort() {
        Post post = Make.ships(1);
        post.post(0, 0, NONE);
        post.post(9, 0, NONE);
        post.post(9, 0, NONE);
        for (int port : Make.outside(0, 9)) {
            post.refuses("lying in " + port, Check.INDEX, p -> p.lying(port));
        }
        Check.is("lying in 0", post.lying(0), 1);
        Check.is("lying in 9", post.lying(9), 2);
    }

    private static void deadAtWithoutTheDead() {
        Post post = Make.route(5, 5, 0, 0);
        int[] places = {0, 1, -1, Integer.MIN_VALUE, Integer.MAX_VALUE};
        post.post(5, 0, NONE);
        post.post(9, 0, NONE);
        for (int place : places) {
            post.refuses("deadAt " + place, Check.INDEX, p -> p.deadAt(place));
        }
    }

    private static void deadAtFromTheFirstToTheLast() {
        Post post = Make.ships(1);
        post.pass(1);
        for (int i = 0; i < 3; i++) {
            post.post(9, 0, NONE);
        }
        Make.goTo(post, 61);
        for (int place = 0; place < 3; place++) {
            Check.is("deadAt " + place, post.deadAt(place), place);
        }
        for (int place : Make.outside(0, 2)) {
            post.refuses("deadAt " + place, Check.INDEX, p -> p.deadAt(place));
        }
    }

    private static void deadAtUpTo40() {
        Post post = Make.ships(1);
        post.pass(9);
        for (int i = 0; i < 40; i++) {
            post.post(i % 10, 0, NONE);
        }
        Make.goTo(post, 69);
        for (int place = 0; place < 40; place++) {
            Check.is("deadAt " + place, post.deadAt(place), place);
        }
        for (int place : Make.outside(0, 39)) {
            post.refuses("deadAt " + place, Check.INDEX, p -> p.deadAt(place));
        }
        post.pass(1);
        post.refuses("deadAt 0 on day 70", Check.INDEX, p -> p.deadAt(0));
    }

    /** Letter 1 dies of six sendings on day 61, ahead of letter 0, which dies of age on day 64. */
    private static void deadAtInTheOrderOfDying() {
        Post post = Make.ships(2);
        Make.goTo(post, 4);
        post.post(9, 1, NONE);
        Make.goTo(post, 49);
        Make.tell(post, 0, 0, 1, 900, 0);
        post.post(0, 0, NONE);
        for (int here = 1; post.today() < 61; here = 1 - here) {
            Make.tell(post, 0, here, 1 - here, 900, 0);
            post.pass(2);
        }
        Check.is("the first is dead on day 61", post.deadAt(0), 1);
        post.refuses("the second is not", Check.INDEX, p -> p.deadAt(1));
        post.pass(3);
        Check.is("the first still", post.deadAt(0), 1);
        Check.is("the second", post.deadAt(1), 0);
        post.refuses("there is no third", Check.INDEX, p -> p.deadAt(2));
        Post sameDay = Make.ships(1);
        sameDay.pass(1);
        sameDay.post(9, 0, NONE);
        sameDay.post(0, 0, NONE);
        sameDay.pass(60);
        Check.is("the smaller number first", sameDay.deadAt(0), 0);
        Check.is("the greater number then", sameDay.deadAt(1), 1);
    }

    private static void deadAtBehindTheOffice() {
        Post post = Make.ships(1);
        Make.goTo(post, 10);
        post.post(9, 0, NONE);
        post.pass(1);
        post.post(9, 0, 3);
        Make.goTo(post, 70);
        post.refuses("dead and opened on day 70", Check.INDEX, p -> p.deadAt(0));
        post.pass(1);
        Check.is("dead on day 71", post.deadAt(0), 1);
        post.refuses("one is dead", Check.INDEX, p -> p.deadAt(1));
        Make.goTo(post, 79);
        Check.is("dead on day 79", post.deadAt(0), 1);
        post.pass(1);
        post.refuses("opened on day 80", Check.INDEX, p -> p.deadAt(0));
    }

    private static void deliveredAsFromTheFirstToNone() {
        Post post = Make.route(3, 3, 0, 5);
        Check.is("as the first, none", post.deliveredAs(0, 0), NONE);
        Check.is("as the last of all numbers, none", post.deliveredAs(0, Integer.MAX_VALUE), NONE);
        post.post(9, 0, NONE);
        Check.is("as the first, lost", post.deliveredAs(0, 0), NONE);
        post.post(3, 0, NONE);
        post.post(3, 0, NONE);
        Check.is("as the first", post.deliveredAs(0, 0), 1);
        Check.is("as the second", post.deliveredAs(0, 1), 2);
        Check.is("as the third, none", post.deliveredAs(0, 2), NONE);
        Check.is("as the last of all numbers", post.deliveredAs(0, Integer.MAX_VALUE), NONE);
    }

    private static void deliveredAsUpTo40() {
        Post post = Make.route(3, 3, 0, 30);
        for (int i = 0; i < 40; i++) {
            post.post(3, 0, NONE);
        }
        for (int place = 0; place < 40; place++) {
            Check.is("deliveredAs " + place, post.deliveredAs(0, place), place);
        }
        Check.is("deliveredAs 40", post.deliveredAs(0, 40), NONE);
        post.refuses("deliveredAs -1", Check.ARGUMENT, p -> p.deliveredAs(0, -1));
    }

    private static void deliveredAsPlaceBelow0() {
        Post post = Make.route(3, 3, 0, 5);
        int[] places = {-1, -2, Integer.MIN_VALUE};
        for (int place : places) {
            post.refuses("nothing delivered, as " + place, Check.ARGUMENT, p -> p.deliveredAs(0, place));
        }
        post.post(3, 0, NONE);
        for (int place : places) {
            post.refuses("one delivered, as " + place, Check.ARGUMENT, p -> p.deliveredAs(0, place));
        }
    }

    private static void deliveredAsOfAShip() {
        Post post = Make.ships(2);
        Make.tell(post, 1, 3, 3, 0, 5);
        post.post(3, 1, NONE);
        for (int ship : Make.outside(0, 1)) {
            post.refuses("deliveredAs to " + ship, Check.INDEX, p -> p.deliveredAs(ship, 0));
            post.refuses("deliveredAs to " + ship + " as -1", Check.INDEX, p -> p.deliveredAs(ship, -1));
        }
        Check.is("to the first ship", post.deliveredAs(0, 0), NONE);
        Check.is("to the last ship", post.deliveredAs(1, 0), 0);
    }

    /** On one day letter 0 is handled where it waits, 1 comes, 2 waits: they are delivered in this order. */
    private static void deliveredAsByRisingNumbers() {
        Post post = Make.route(3, 3, 5, 0);
        post.post(3, 0, NONE);
        post.pass(3);
        post.post(2, 0, NONE);
        post.post(3, 0, NONE);
        Check.is("letter 1 comes on day 5", post.comesTo(1), 503);
        Check.is("all on day 5", post.pass(2), 3);
        for (int place = 0; place < 3; place++) {
            Check.is("deliveredAs " + place, post.deliveredAs(0, place), place);
        }
    }
}
