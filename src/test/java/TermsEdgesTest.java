/** The section Terms: each boundary that it names, at the last value that is in and at the first that is out. */
public final class TermsEdgesTest {
    private static final int NONE = SeaPost.NONE;

    public static void main(String[] args) {
        mailTakesItsDays();
        handledAtOnceWhenPosted();
        closedComesAheadOfAllElse();
        heldUntilTheStrikeEnds();
        deliveredFromArrivingToLeaving();
        deliveredByTheRouteToldLastWithoutWord();
        waitsForACallThatArrivesLaterThanToday();
        waitsForItBehindCallsAtOtherPorts();
        sentToACallThatLeavesNotEarlier();
        notSentToACallInThisPort();
        earliestMeeting();
        sentForTheSixthTimeDeadTheSeventh();
        sentSixTimesAndDelivered();
        sentSixTimesAndWaits();
        sentSixTimesAndLost();
        sentSixTimesAndHeld();
        lostWithoutWordOrCalls();
        lostStaysInThePort();
        comesOnItsDayOrALaterOne();
        comesWhereTheShipWaits();
        dead60DaysBehindPosting();
        deadInEachStateOfLying();
        deadOnComing60DaysBehindPosting();
        notDeadAtSea();
        notDeadTwice();
        officeOpensOnDaysDividedBy10();
        officeOpensOnTheDayOfDying();
        officeOnDay1000();
        byRisingNumbers();
        strikeBeginsToday();
        refusedCallsChangeNothing();
        Check.end();
    }

    private static void mailTakesItsDays() {
        for (int from = 0; from < 10; from++) {
            for (int to = 0; to < 10; to++) {
                if (from == to) {
                    continue;
                }
                Post post = Make.ships(1);
                post.pass(7);
                Make.tell(post, 0, from, to, 7, 30);
                post.post(from, 0, NONE);
                int day = 7 + Math.abs(from - to) + 1;
                Check.is("comesTo from " + from + " to " + to, post.comesTo(0), 100 * day + to);
                Make.goTo(post, day - 1);
                Check.is("the day ahead", post.state(0), SeaPost.AT_SEA);
                Check.is("the day of coming", post.pass(1), 1);
            }
        }
    }

    private static void handledAtOnceWhenPosted() {
        Post post = Make.route(4, 4, 0, 1, 6, 20, 0);
        post.post(4, 0, NONE);
        Check.is("the ship is there", post.state(0), SeaPost.DELIVERED);
        post.post(5, 0, NONE);
        Check.is("no word", post.state(1), SeaPost.LOST);
        post.pass(2);
        post.post(4, 0, NONE);
        Check.is("it goes elsewhere", post.state(2), SeaPost.AT_SEA);
        post.post(6, 0, NONE);
        Check.is("it comes here", post.state(3), SeaPost.WAITS);
        post.strike(6, 1);
        post.post(6, 0, NONE);
        Check.is("closed", post.state(4), SeaPost.HELD);
        Check.is("the one that waits is not handled now", post.state(3), SeaPost.WAITS);
    }

    private static void closedComesAheadOfAllElse() {
        Post post = Make.route(4, 4, 0, 9, 4, 30, 0, 6, 40, 9);
        post.strike(4, 1);
        post.post(4, 0, NONE);
        Check.is("the ship is there", post.state(0), SeaPost.HELD);
        post.strike(9, 1);
        post.post(9, 0, NONE);
        Check.is("no word", post.state(1), SeaPost.HELD);
        Make.goTo(post, 12);
        post.strike(4, 1);
        post.post(4, 0, NONE);
        Check.is("the ship comes", post.state(2), SeaPost.HELD);
        Make.goTo(post, 32);
        post.strike(4, 1);
        post.post(4, 0, NONE);
        Check.is("the ship goes elsewhere", post.state(3), SeaPost.HELD);
        post.pass(1);
        Check.is("sent a day later", post.state(3), SeaPost.AT_SEA);
    }

    private static void heldUntilTheStrikeEnds() {
        int[] lengths = {1, 2, 59};
        for (int days : lengths) {
            Post post = Make.route(4, 4, 0, 30, 4, 31, 30);
            post.strike(4, days);
            post.post(4, 0, NONE);
            Check.is("held on the day of posting", post.state(0), SeaPost.HELD);
            Check.is("days of the strike", Make.goTo(post, days - 1), 0);
            Check.is("held on the last day", post.state(0), SeaPost.HELD);
            Check.is("the first open day", post.pass(1), 1);
        }
    }

    private static void deliveredFromArrivingToLeaving() {
        int[] states = {SeaPost.WAITS, SeaPost.DELIVERED, SeaPost.DELIVERED, SeaPost.DELIVERED, SeaPost.LOST};
        int[] days = {9, 10, 11, 12, 13};
        for (int i = 0; i < days.length; i++) {
            Post post = Make.route(4, 4, 10, 2);
            Make.goTo(post, days[i]);
            post.post(4, 0, NONE);
            Check.is("posted on " + days[i], post.state(0), states[i]);
        }
        Post oneDay = Make.route(4, 4, 10, 0);
        oneDay.post(4, 0, NONE);
        Check.is("a day ahead of a call of one day", Make.goTo(oneDay, 9), 0);
        Check.is("a call of one day", oneDay.pass(1), 1);
    }

    /** The port has no word, or an old one; but the ship itself is there. */
    private static void deliveredByTheRouteToldLastWithoutWord() {
        Post post = Make.route(0, 9, 0, 1);
        Check.is("no word in 9", post.word(9, 0), NONE);
        post.post(9, 0, NONE);
        Check.is("delivered", post.state(0), SeaPost.DELIVERED);
        Post old = Make.route(9, 5, 50, 0);
        Make.tell(old, 0, 0, 9, 0, 0);
        Check.is("old word in 9", old.word(9, 0), 0);
        old.post(9, 0, NONE);
        Check.is("delivered too", old.state(0), SeaPost.DELIVERED);
        Post other = Make.route(9, 9, 0, 5);
        Make.tell(other, 0, 0, 5, 50, 0);
        other.post(9, 0, NONE);
        Check.is("the old word says it is here, but it is not", other.state(0), SeaPost.LOST);
    }

    private static void waitsForACallThatArrivesLaterThanToday() {
        int[] arrives = {9, 10, 11, 1000};
        int[] states = {SeaPost.LOST, SeaPost.LOST, SeaPost.WAITS, SeaPost.WAITS};
        for (int i = 0; i < arrives.length; i++) {
            // The ship itself goes by a second route, of which port 9 has no word yet.
            Post post = Make.route(9, 9, arrives[i], 30);
            Make.goTo(post, 10);
            Make.tell(post, 0, 0, 0, 0, 0);
            post.post(9, 0, NONE);
            Check.is("posted on 10, the call arrives on " + arrives[i], post.state(0), states[i]);
        }
    }

    private static void waitsForItBehindCallsAtOtherPorts() {
        Post post = Make.route(5, 4, 3, 30, 6, 40, 30, 7, 80, 0, 8, 90, 0, 9, 100, 0, 5, 1000, 0);
        post.post(5, 0, NONE);
        Check.is("the sixth call is here, in 1000 days", post.state(0), SeaPost.WAITS);
        Check.is("not sent", post.sentOn(0), 0);
        Post here = Make.route(5, 5, 0, 0, 4, 10, 0);
        Make.goTo(here, 1);
        here.post(5, 0, NONE);
        Check.is("the call here is over", here.comesTo(0), 304);
    }

    private static void sentToACallThatLeavesNotEarlier() {
        for (int to = 1; to < 10; to++) {
            int due = 5 + to + 1;
            Post in = Make.route(0, to, 0, due);
            in.pass(5);
            in.post(0, 0, NONE);
            Check.is("leaves " + to + " on the day of the mail", in.comesTo(0), 100 * due + to);
            Check.is("it is met there", in.pass(due - 5), 1);
            Post out = Make.route(0, to, 0, due - 1);
            out.pass(5);
            out.post(0, 0, NONE);
            Check.is("leaves " + to + " a day earlier", out.state(0), SeaPost.LOST);
        }
    }

    private static void notSentToACallInThisPort() {
        // The old word of 5 has the ship here until day 30; the ship itself is elsewhere.
        Post post = Make.route(5, 5, 0, 30);
        Make.tell(post, 0, 0, 0, 0, 30);
        post.post(5, 0, NONE);
        Check.is("a call of this port alone", post.state(0), SeaPost.LOST);
        Post other = Make.route(5, 5, 0, 30, 6, 31, 0);
        Make.tell(other, 0, 0, 0, 0, 30);
        other.post(5, 0, NONE);
        Check.is("the other port's call, though it is later", other.comesTo(0), 206);
    }

    private static void earliestMeeting() {
        // Mail from 4 is in 6 and in 2 on day 3, in 3 on day 2.
        Post missed = Make.route(4, 6, 0, 2, 2, 3, 0, 3, 4, 30);
        missed.post(4, 0, NONE);
        Check.is("6 is missed by a day", missed.comesTo(0), 302);
        Post met = Make.route(4, 6, 0, 3, 2, 4, 0, 3, 5, 30);
        met.post(4, 0, NONE);
        Check.is("6 is met on its last day", met.comesTo(0), 306);
        Post arriving = Make.route(4, 6, 29, 0, 2, 30, 0);
        arriving.post(4, 0, NONE);
        Check.is("the day of arriving is the meeting", arriving.comesTo(0), 306);
        Post last = Make.route(4, 0, 0, 4, 1, 5, 0, 9, 6, 0, 0, 7, 0, 9, 8, 0, 3, 1000, 0);
        last.pass(8);
        last.post(4, 0, NONE);
        Check.is("the sixth call alone", last.comesTo(0), 1003);
        Post none = Make.route(4, 0, 0, 4, 1, 5, 0, 9, 6, 0, 0, 7, 0, 9, 8, 0, 3, 9, 0);
        none.pass(8);
        none.post(4, 0, NONE);
        Check.is("none of six calls", none.state(0), SeaPost.LOST);
    }

    private static void sentForTheSixthTimeDeadTheSeventh() {
        Post post = Make.sentSixTimes();
        Check.is("sent for the sixth time", post.state(0), SeaPost.AT_SEA);
        Check.is("six times", post.sentOn(0), 6);
        post.pass(1);
        Check.is("at sea", post.state(0), SeaPost.AT_SEA);
        post.pass(1);
        Check.is("not sent for the seventh time", post.state(0), SeaPost.DEAD);
        Check.is("six times still", post.sentOn(0), 6);
        Check.is("its marks", post.marksOf(0), "-A0>-B2>-A4>-B6>-A8>-B10>A12+");
        Check.is("at the office", post.deadAt(0), 0);
    }

    private static void sentSixTimesAndDelivered() {
        Post post = Make.sentSixTimes();
        Make.tell(post, 0, 5, 0, 0, 30);
        Check.is("delivered though", post.pass(2), 1);
        Check.is("six times", post.sentOn(0), 6);
    }

    private static void sentSixTimesAndWaits() {
        Post post = Make.sentSixTimes();
        Make.tell(post, 0, 0, 0, 20, 0);
        post.pass(2);
        Check.is("waits though", post.state(0), SeaPost.WAITS);
        Check.is("delivered", Make.goTo(post, 20), 1);
    }

    private static void sentSixTimesAndLost() {
        Post post = Make.sentSixTimes();
        Make.tell(post, 0, 0, 5, 0, 17);
        post.pass(2);
        Check.is("lost, as 5 is left on day 17", post.state(0), SeaPost.LOST);
        Check.is("lost, not dead", post.where(0), 0);
        Make.tell(post, 0, 0, 5, 0, 19);
        post.pass(1);
        Check.is("dead, as 5 could be reached on day 19", post.state(0), SeaPost.DEAD);
    }

    private static void sentSixTimesAndHeld() {
        Post post = Make.sentSixTimes();
        Make.tell(post, 0, 0, 0, 20, 0);
        post.pass(2);
        post.strike(0, 3);
        Make.tell(post, 0, 0, 1, 900, 0);
        post.pass(1);
        Check.is("held", post.state(0), SeaPost.HELD);
        post.pass(1);
        Check.is("held still", post.state(0), SeaPost.HELD);
        post.pass(1);
        Check.is("dead when the port opens", post.state(0), SeaPost.DEAD);
    }

    private static void lostWithoutWordOrCalls() {
        Post noRoute = Make.ships(1);
        noRoute.post(5, 0, NONE);
        Check.is("no route", noRoute.state(0), SeaPost.LOST);
        Post noWord = Make.route(0, 6, 50, 0);
        noWord.post(5, 0, NONE);
        Check.is("no word", noWord.state(0), SeaPost.LOST);
        noWord.pass(1);
        Check.is("no word on the day ahead of it", noWord.state(0), SeaPost.LOST);
        noWord.pass(1);
        Check.is("word on its day", noWord.comesTo(0), 406);
        Post noCalls = Make.route(5);
        noCalls.post(5, 0, NONE);
        Check.is("no calls", noCalls.state(0), SeaPost.LOST);
        Post over = Make.route(5, 6, 0, 3);
        over.pass(2);
        over.post(5, 0, NONE);
        Check.is("all calls are left too early", over.state(0), SeaPost.LOST);
    }

    private static void lostStaysInThePort() {
        Post post = Make.ships(1);
        post.post(0, 0, NONE);
        for (int day = 0; day < 60; day++) {
            Check.is("state on " + day, post.state(0), SeaPost.LOST);
            Check.is("where on " + day, post.where(0), 0);
            post.pass(1);
        }
        Check.is("its marks", post.marksOf(0), "A0+*");
    }

    private static void comesOnItsDayOrALaterOne() {
        for (int shut = 1; shut <= 8; shut++) {
            Post post = Make.route(0, 3, 2, 20);
            post.post(0, 0, NONE);
            post.strike(3, shut);
            int due = Math.max(4, shut);
            Check.is("days ahead of coming", Make.goTo(post, due - 1), 0);
            Check.is("at sea", post.state(0), SeaPost.AT_SEA);
            Check.is("the port is closed until " + shut, post.pass(1), 1);
            Check.is("its marks", post.marksOf(0), "-A0>D" + due + "!");
        }
        Post closing = Make.route(0, 3, 2, 20);
        closing.post(0, 0, NONE);
        closing.pass(3);
        closing.strike(3, 1);
        Check.is("a strike that ends on its day", closing.pass(1), 1);
        Post closed = Make.route(0, 3, 2, 20);
        closed.post(0, 0, NONE);
        closed.pass(3);
        closed.strike(3, 2);
        Check.is("a strike that ends a day later", closed.pass(1), 0);
        Check.is("the day later", closed.pass(1), 1);
    }

    private static void comesWhereTheShipWaits() {
        Post late = Make.route(0, 3, 2, 2);
        late.post(0, 0, NONE);
        Check.is("on the ship's last day", late.pass(4), 1);
        Post missed = Make.route(0, 3, 2, 2);
        missed.post(0, 0, NONE);
        missed.strike(3, 5);
        Check.is("a day too late", missed.pass(5), 0);
        Check.is("lost where it came", missed.where(0), 3);
    }

    private static void dead60DaysBehindPosting() {
        int[] days = {0, 1, 9, 10, 935, 939};
        for (int day : days) {
            Post post = Make.ships(1);
            Make.goTo(post, day);
            post.post(4, 0, 2);
            Make.goTo(post, day + 59);
            Check.is("59 days behind " + day, post.state(0), SeaPost.LOST);
            post.pass(1);
            boolean opened = (day + 60) % 10 == 0;
            Check.is("60 days behind " + day, post.state(0), opened ? SeaPost.RETURNED : SeaPost.DEAD);
        }
        Post last = Make.ships(1);
        Make.goTo(last, 941);
        last.post(4, 0, 2);
        Make.goTo(last, 1000);
        Check.is("59 days behind 941", last.state(0), SeaPost.LOST);
    }

    private static void deadInEachStateOfLying() {
        Post post = Make.route(3, 3, 61, 0);
        post.pass(1);
        post.post(3, 0, NONE);
        post.post(9, 0, NONE);
        post.post(5, 0, NONE);
        post.strike(5, 60);
        post.post(5, 0, NONE);
        Make.goTo(post, 10);
        post.strike(5, 60);
        post.tell(0, 9);
        Make.goTo(post, 11);
        Make.tell(post, 0, 3, 3, 61, 0);
        Make.goTo(post, 13);
        Make.tell(post, 0, 9, 8, 2, 0);
        Make.tell(post, 0, 3, 3, 61, 0);
        Make.goTo(post, 60);
        Check.is("held on day 60", post.state(3), SeaPost.HELD);
        Check.is("waits on day 60", post.state(0), SeaPost.WAITS);
        Check.is("the ship comes on day 61, but none is delivered", post.pass(1), 0);
        Check.is("in port 3", post.shipAt(0), 3);
        Check.is("it waited", post.state(0), SeaPost.DEAD);
        Check.is("it was held", post.state(3), SeaPost.DEAD);
        Check.is("no coming is told", post.marksOf(0), "D1+");
        Check.is("nor of the one that was held", post.marksOf(3), "F1" + PlainPost.HELD_SIGN + "+");
    }

    private static void deadOnComing60DaysBehindPosting() {
        int[] days = {59, 60, 61, 75};
        for (int day : days) {
            // The ship lies in 3 for all these days; strikes keep the letter at sea until that day.
            Post post = Make.route(0, 3, 2, 30, 3, 33, 30, 3, 64, 30);
            post.post(0, 0, 8);
            post.strike(3, 55);
            post.pass(50);
            post.strike(3, day - 50);
            Make.goTo(post, day - 1);
            Check.is("at sea", post.state(0), SeaPost.AT_SEA);
            Check.is("comes on day " + day, post.pass(1), day == 59 ? 1 : 0);
            String due = day == 59 ? "-A0>D59!" : "-A0>D" + day + (day == 60 ? "+<I" : "+");
            Check.is("its marks", post.marksOf(0), due);
        }
    }

    private static void notDeadAtSea() {
        Post post = Make.route(0, 3, 2, 30);
        post.post(0, 0, 8);
        for (int i = 0; i < 4; i++) {
            post.strike(3, 60);
            post.pass(50);
        }
        Check.is("200 days at sea", post.state(0), SeaPost.AT_SEA);
        Check.is("its marks", post.marksOf(0), "-A0>D");
        post.refuses("none is dead", Check.INDEX, p -> p.deadAt(0));
        post.pass(10);
        Check.is("dead when it came on day 210, and returned", post.marksOf(0), "-A0>D210+<I");
    }

    private static void notDeadTwice() {
        Post post = Make.route(3, 3, 0, 0);
        post.post(3, 0, NONE);
        post.post(9, 0, NONE);
        post.post(9, 0, 4);
        Make.goTo(post, 200);
        Check.is("delivered", post.marksOf(0), "D0!");
        Check.is("burnt", post.marksOf(1), "J0+*");
        Check.is("returned", post.marksOf(2), "J0+<E");
    }

    private static void officeOpensOnDaysDividedBy10() {
        for (int day = 1; day <= 20; day++) {
            Post post = Make.ships(1);
            Make.goTo(post, day);
            post.post(9, 0, NONE);
            Make.goTo(post, day + 60);
            int opens = (day + 69) / 10 * 10;
            if (opens > day + 60) {
                Make.goTo(post, opens - 1);
                Check.is("dead on the day ahead of " + opens, post.state(0), SeaPost.DEAD);
                post.pass(1);
            }
            Check.is("opened on " + opens, post.state(0), SeaPost.BURNT);
        }
    }

    private static void officeOpensOnTheDayOfDying() {
        Post post = Make.ships(1);
        Make.goTo(post, 10);
        post.post(9, 0, NONE);
        post.post(9, 0, 3);
        Make.goTo(post, 69);
        Check.is("lost", post.state(0), SeaPost.LOST);
        post.pass(1);
        Check.is("died and burnt", post.marksOf(0), "J10+*");
        Check.is("died and returned", post.marksOf(1), "J10+<D");
    }

    private static void officeOnDay1000() {
        Post post = Make.ships(1);
        Make.goTo(post, 931);
        post.post(9, 0, NONE);
        Make.goTo(post, 940);
        post.post(9, 0, 3);
        post.pass(1);
        post.post(9, 0, 3);
        Make.goTo(post, 999);
        Check.is("dead on day 991", post.state(0), SeaPost.DEAD);
        post.pass(1);
        Check.is("burnt on day 1000", post.state(0), SeaPost.BURNT);
        Check.is("dead and returned on day 1000", post.state(1), SeaPost.RETURNED);
        Check.is("59 days old", post.state(2), SeaPost.LOST);
    }

    /** On day 6 letters 0 to 2 are handled where they wait, 3 comes, 4 was held. */
    private static void byRisingNumbers() {
        Post post = Make.route(3, 3, 6, 0);
        post.pass(1);
        post.post(4, 0, NONE);
        post.post(3, 0, NONE);
        Make.goTo(post, 4);
        post.post(3, 0, NONE);
        post.post(2, 0, NONE);
        post.pass(1);
        post.strike(3, 1);
        post.post(3, 0, NONE);
        Check.is("waits", post.state(2), SeaPost.WAITS);
        Check.is("comes on day 6", post.comesTo(3), 603);
        Check.is("held", post.state(4), SeaPost.HELD);
        Check.is("all on day 6", post.pass(1), 5);
        for (int place = 0; place < 5; place++) {
            Check.is("deliveredAs " + place, post.deliveredAs(0, place), place);
        }
    }

    private static void strikeBeginsToday() {
        Post post = Make.route(3, 3, 0, 30);
        post.post(3, 0, NONE);
        Check.is("delivered ahead of the strike", post.state(0), SeaPost.DELIVERED);
        post.strike(3, 1);
        post.post(3, 0, NONE);
        Check.is("held behind it, on the same day", post.state(1), SeaPost.HELD);
        Check.is("strike of one day", post.pass(1), 1);
    }

    /** Each refused call on an object in full use; what it answers, the drafts, the strikes and the marks stay. */
    private static void refusedCallsChangeNothing() {
        Post post = inFullUse();
        post.refuses("call of no ship", Check.INDEX, p -> p.call(3, 0, 500, 0));
        post.refuses("call at no port", Check.INDEX, p -> p.call(1, 10, 500, 0));
        post.refuses("call on no day", Check.ARGUMENT, p -> p.call(1, 0, 1001, 0));
        post.refuses("call with no stay", Check.ARGUMENT, p -> p.call(1, 0, 500, 31));
        post.refuses("call too early", Check.STATE, p -> p.call(1, 0, 71, 0));
        post.refuses("call of a full draft", Check.STATE, p -> p.call(2, 0, 900, 0));
        post.refuses("tell of no ship", Check.INDEX, p -> p.tell(3, 0));
        post.refuses("tell at no port", Check.INDEX, p -> p.tell(1, 10));
        post.refuses("shipAt", Check.INDEX, p -> p.shipAt(3));
        post.refuses("routes", Check.INDEX, p -> p.routes(3));
        post.refuses("word", Check.INDEX, p -> p.word(10, 0));
        post.refuses("behind", Check.INDEX, p -> p.behind(3));
        post.refuses("post at no port", Check.INDEX, p -> p.post(10, 0, 0));
        post.refuses("post for no ship", Check.INDEX, p -> p.post(0, 3, 0));
        post.refuses("post from no home", Check.INDEX, p -> p.post(0, 0, 10));
        post.refuses("strike at no port", Check.INDEX, p -> p.strike(10, 60));
        post.refuses("strike too long", Check.ARGUMENT, p -> p.strike(9, 61));
        post.refuses("isClosed", Check.INDEX, p -> p.isClosed(10) ? 1 : 0);
        post.refuses("pass too long", Check.ARGUMENT, p -> p.pass(61));
        for (LetterUses use : LetterUses.values()) {
            post.refuses(use + " of no letter", Check.INDEX, p -> use.of(p, 7, 0));
        }
        post.refuses("lying", Check.INDEX, p -> p.lying(10));
        post.refuses("deadAt", Check.INDEX, p -> p.deadAt(1));
        post.refuses("deliveredAs to no ship", Check.INDEX, p -> p.deliveredAs(3, 0));
        post.refuses("deliveredAs, place below 0", Check.ARGUMENT, p -> p.deliveredAs(0, -1));
        post.refuses("markAt", Check.INDEX, p -> p.markAt(0, 5));
        post.refuses("written", Check.INDEX, p -> p.written(0, 2));
    }

    /** On day 72: three ships, one with 3 calls in its draft, one with 6; seven letters, two strikes, one dead. */
    private static Post inFullUse() {
        Post post = Make.ships(3);
        post.pass(1);
        post.post(9, 2, 4);
        Make.goTo(post, 12);
        post.post(8, 2, NONE);
        Make.goTo(post, 60);
        Make.tell(post, 0, 3, 3, 60, 2, 6, 80, 5);
        post.post(3, 0, 1);
        Make.goTo(post, 70);
        post.post(3, 0, 1);
        post.post(6, 0, 1);
        post.post(1, 1, 1);
        post.strike(9, 30);
        post.strike(4, 2);
        post.pass(2);
        post.post(9, 1, 0);
        for (int i = 0; i < 6; i++) {
            post.call(2, i, 74 + 3 * i, 2);
        }
        for (int i = 0; i < 3; i++) {
            post.call(1, 9 - i, 65 + 3 * i, 0);
        }
        int[] states = {SeaPost.RETURNED, SeaPost.DEAD, SeaPost.DELIVERED, SeaPost.AT_SEA, SeaPost.WAITS, SeaPost.LOST,
            SeaPost.HELD};
        for (int letter = 0; letter < states.length; letter++) {
            Check.is("state of letter " + letter + " in full use", post.state(letter), states[letter]);
        }
        return post;
    }
}
