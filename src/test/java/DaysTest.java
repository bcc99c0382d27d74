/** Promises 9 to 13: letters, strikes and days, and how an agent handles a letter. */
public final class DaysTest {
    public static void main(String[] args) {
        postNumbers();
        postWrong();
        postToTheShip();
        postByOldWord();
        postIntoAStrike();
        waits();
        waitsForALaterCallOnly();
        meetings();
        firstOfTheMeetings();
        sixCalls();
        lost();
        sentSixTimes();
        strike();
        strikeWrong();
        isClosed();
        passCounts();
        passWrong();
        lastDay();
        aClosedPortHoldsWhatLies();
        aClosedPortKeepsMailAtSea();
        deathAfterSixtyDays();
        deathOnComing();
        heldLettersDie();
        officeDays();
        Check.end();
    }

    /** A post with one ship that tells the route of these ports, days and stays, three numbers a call. */
    private static Post withRoute(int toldAt, int... calls) {
        Post post = new Post();
        post.addShip();
        tell(post, toldAt, calls);
        return post;
    }

    private static void tell(Post post, int toldAt, int... calls) {
        for (int i = 0; i + 2 < calls.length; i += 3) {
            post.call(0, calls[i], calls[i + 1], calls[i + 2]);
        }
        post.tell(0, toldAt);
    }

    private static void postNumbers() {
        Post post = withRoute(0);
        for (int i = 0; i < 40; i++) {
            Check.is("post", post.post(i % 10, 0, i % 11 - 1), i);
        }
        Check.is("letters", post.letters(), 40);
        post.refuses("a 41st letter", Check.STATE, p -> p.post(0, 0, 0));
        post.refuses("a 41st letter at no port", Check.INDEX, p -> p.post(10, 0, 0));
        post.refuses("a 41st letter for no ship", Check.INDEX, p -> p.post(0, 1, 0));
        post.refuses("a 41st letter from no home", Check.INDEX, p -> p.post(0, 0, 10));
    }

    private static void postWrong() {
        Post post = withRoute(0, 0, 0, 5);
        int[] noPorts = {-1, 10, Integer.MIN_VALUE, Integer.MAX_VALUE};
        for (int port : noPorts) {
            post.refuses("post at " + port, Check.INDEX, p -> p.post(port, 0, 0));
        }
        post.refuses("post for ship 1", Check.INDEX, p -> p.post(0, 1, 0));
        post.refuses("post for ship -1", Check.INDEX, p -> p.post(0, -1, 0));
        post.refuses("post from home -2", Check.INDEX, p -> p.post(0, 0, -2));
        post.refuses("post from home 10", Check.INDEX, p -> p.post(0, 0, 10));
        Check.is("post from home 9", post.post(0, 0, 9), 0);
        Check.is("post from no home", post.post(0, 0, SeaPost.NONE), 1);
    }

    private static void postToTheShip() {
        Post post = withRoute(9, 2, 0, 1);
        post.post(2, 0, 5);
        Check.is("a letter where the ship is", post.state(0), SeaPost.DELIVERED);
        Check.is("its marks", post.marksOf(0), "C0!");
        Check.is("days that pass deliver nothing more", post.pass(3), 0);
    }

    private static void postByOldWord() {
        Post post = withRoute(0, 3, 10, 2);
        post.pass(5);
        tell(post, 9, 8, 20, 2);
        post.post(0, 0, SeaPost.NONE);
        Check.is("sent by the word of the port", post.comesTo(0), 903);
        Check.is("days", post.pass(3), 0);
        post.post(0, 0, SeaPost.NONE);
        Check.is("sent by the new word of the port", post.comesTo(1), 1708);
        post.pass(1);
        Check.is("sent on from where it came", post.comesTo(0), 1508);
        Check.is("delivered by day 21", post.pass(12), 2);
    }

    private static void postIntoAStrike() {
        Post post = withRoute(4, 4, 0, 20);
        post.strike(4, 3);
        post.post(4, 0, SeaPost.NONE);
        Check.is("held though the ship is here", post.state(0), SeaPost.HELD);
        Check.is("delivered when the strike ends", post.pass(3), 1);
        Check.is("its marks", post.marksOf(0), "E0" + (char) 55357 + (char) 57003 + "!");
    }

    private static void waits() {
        Post post = withRoute(5, 4, 9, 0, 5, 12, 1);
        post.post(5, 0, SeaPost.NONE);
        Check.is("waits, though an earlier call is elsewhere", post.state(0), SeaPost.WAITS);
        Check.is("nothing comes ahead of day 12", post.pass(11), 0);
        Check.is("waits still", post.state(0), SeaPost.WAITS);
        Check.is("delivered on day 12", post.pass(1), 1);
    }

    private static void waitsForALaterCallOnly() {
        Post post = withRoute(5, 5, 0, 9, 4, 30, 0);
        post.pass(1);
        // The word of 5 is still the first route: there is a call here today, but none that arrives later.
        tell(post, 0, 6, 30, 0);
        post.post(5, 0, SeaPost.NONE);
        Check.is("does not wait for a ship that should be here", post.comesTo(0), 304);
        Post today = withRoute(5, 5, 3, 9, 4, 30, 0);
        today.pass(3);
        tell(today, 0, 6, 30, 0);
        today.post(5, 0, SeaPost.NONE);
        Check.is("nor for one that should arrive today", today.comesTo(0), 504);
        Post tomorrow = withRoute(5, 5, 4, 9, 4, 30, 0);
        tomorrow.pass(3);
        tell(tomorrow, 0, 6, 30, 0);
        tomorrow.post(5, 0, SeaPost.NONE);
        Check.is("but for one that should arrive tomorrow", tomorrow.state(0), SeaPost.WAITS);
    }

    private static void meetings() {
        // Mail from 0 is at 9 on day 10, at 1 on day 2, at 4 on day 5.
        Post late = withRoute(0, 9, 1, 8);
        late.post(0, 0, SeaPost.NONE);
        Check.is("a call that leaves a day too early", late.state(0), SeaPost.LOST);
        Post justIn = withRoute(0, 9, 1, 9);
        justIn.post(0, 0, SeaPost.NONE);
        Check.is("a call that leaves on that day", justIn.comesTo(0), 1009);
        Post soonest = withRoute(0, 9, 1, 9, 1, 11, 0);
        soonest.post(0, 0, SeaPost.NONE);
        Check.is("the mail's day counts if it is later", soonest.comesTo(0), 1009);
        Post arriving = withRoute(0, 1, 3, 0, 4, 4, 30);
        arriving.post(0, 0, SeaPost.NONE);
        Check.is("the day of arriving counts if it is later", arriving.comesTo(0), 201);
        Post second = withRoute(0, 9, 1, 29, 4, 31, 0);
        second.pass(25);
        second.post(0, 0, SeaPost.NONE);
        Check.is("only a call that can be met counts", second.comesTo(0), 3004);
    }

    private static void sixCalls() {
        Post post = withRoute(9, 0, 0, 0, 1, 1, 0, 2, 2, 0, 3, 3, 0, 4, 4, 0, 5, 12, 0);
        Check.is("shipAt by 6 calls", post.shipAt(0), 0);
        post.pass(5);
        Check.is("shipAt by none of 6 calls", post.shipAt(0), SeaPost.NONE);
        post.post(9, 0, SeaPost.NONE);
        Check.is("to the 6th of 6 calls", post.comesTo(0), 1005);
        post.pass(7);
        Check.is("met there", post.state(0), SeaPost.DELIVERED);
        post.post(9, 0, SeaPost.NONE);
        Check.is("to none of 6 calls", post.state(1), SeaPost.LOST);
    }

    /** A call that can be met is met ahead of all later ones, so two meetings are never equal. */
    private static void firstOfTheMeetings() {
        // Mail from 5 is at 7 and at 3 on day 3.
        Post post = withRoute(5, 7, 0, 2, 3, 3, 0);
        post.post(5, 0, SeaPost.NONE);
        Check.is("7 is left too early", post.comesTo(0), 303);
        Post later = withRoute(5, 1, 0, 5, 6, 6, 0);
        later.post(5, 0, SeaPost.NONE);
        Check.is("1 is met on day 5, 6 on day 6", later.comesTo(0), 501);
        Post far = withRoute(0, 9, 0, 9, 1, 10, 4);
        far.post(0, 0, SeaPost.NONE);
        Check.is("9 is left on day 9, ahead of the mail", far.comesTo(0), 201);
        Post both = withRoute(4, 0, 0, 1, 3, 2, 2, 6, 5, 9);
        both.pass(3);
        both.post(4, 0, SeaPost.NONE);
        Check.is("3 is left on day 4, so 6 is met on day 6", both.comesTo(0), 606);
    }

    private static void lost() {
        Post post = withRoute(0, 5, 0, 3);
        post.post(9, 0, SeaPost.NONE);
        Check.is("no word", post.state(0), SeaPost.LOST);
        Check.is("lost in its port", post.where(0), 9);
        Check.is("marks of a lost letter", post.marksOf(0), "J0");
        post.pass(10);
        post.post(0, 0, SeaPost.NONE);
        Check.is("all calls are over", post.state(1), SeaPost.LOST);
        tell(post, 9, 9, 30, 1);
        post.pass(1);
        Check.is("found again by a new word", post.state(0), SeaPost.WAITS);
        Check.is("no word of that yet", post.state(1), SeaPost.LOST);
        post.pass(2);
        Check.is("sent by it when it has come", post.comesTo(1), 2309);
        Check.is("lost letters were not sent", post.sentOn(1), 1);
    }

    /** Routes that change each time when the letter comes, so that it is sent on and on. */
    private static void sentSixTimes() {
        Post post = withRoute(0, 1, 900, 0);
        post.post(0, 0, 7);
        for (int times = 1; times <= 6; times++) {
            Check.is("sentOn", post.sentOn(0), times);
            Check.is("at sea", post.state(0), SeaPost.AT_SEA);
            int here = times % 2;
            tell(post, here, 1 - here, 900, 0);
            post.pass(2);
        }
        Check.is("sent on 6 times, then dead", post.state(0), SeaPost.DEAD);
        Check.is("sentOn when dead", post.sentOn(0), 6);
        Check.is("deadAt(0)", post.deadAt(0), 0);
        Check.is("its marks", post.marksOf(0), "-A0>-B2>-A4>-B6>-A8>-B10>A12+");
        post.pass(7);
        Check.is("dead until day 20", post.state(0), SeaPost.DEAD);
        post.pass(1);
        Check.is("returned on day 20", post.state(0), SeaPost.RETURNED);
        Check.is("its marks then", post.marksOf(0), "-A0>-B2>-A4>-B6>-A8>-B10>A12+<H");
        Post other = withRoute(0, 1, 900, 0);
        other.post(0, 0, 7);
        for (int times = 1; times <= 6; times++) {
            int here = times % 2;
            tell(other, here, times == 6 ? here : 1 - here, 900, 0);
            other.pass(2);
        }
        Check.is("sent on 6 times, but it waits", other.state(0), SeaPost.WAITS);
    }

    private static void strike() {
        Post post = new Post();
        post.pass(5);
        Check.is("strike of 1 day", post.strike(0, 1), 6);
        Check.is("strike of 60 days", post.strike(1, 60), 65);
        Check.is("a shorter strike", post.strike(1, 59), 65);
        Check.is("a strike as long", post.strike(1, 60), 65);
        post.pass(1);
        Check.is("a longer strike", post.strike(1, 60), 66);
        Check.is("a strike behind one that is over", post.strike(0, 2), 8);
        Check.is("a shorter strike, as long in days", post.strike(0, 1), 8);
    }

    private static void strikeWrong() {
        Post post = new Post();
        int[] noDays = {0, -1, 61, Integer.MIN_VALUE, Integer.MAX_VALUE};
        for (int days : noDays) {
            post.refuses("strike of " + days, Check.ARGUMENT, p -> p.strike(0, days));
        }
        int[] noPorts = {-1, 10, Integer.MIN_VALUE, Integer.MAX_VALUE};
        for (int port : noPorts) {
            post.refuses("strike at " + port, Check.INDEX, p -> p.strike(port, 1));
            post.refuses("strike of 0 at " + port, Check.INDEX, p -> p.strike(port, 0));
        }
    }

    private static void isClosed() {
        Post post = new Post();
        post.strike(9, 2);
        Check.is("closed today", post.isClosed(9), true);
        Check.is("another port", post.isClosed(8), false);
        post.pass(1);
        Check.is("closed on the last day", post.isClosed(9), true);
        post.pass(1);
        Check.is("open on the day that strike told", post.isClosed(9), false);
        post.refuses("isClosed(10)", Check.INDEX, p -> p.isClosed(10) ? 1 : 0);
        post.refuses("isClosed(-1)", Check.INDEX, p -> p.isClosed(-1) ? 1 : 0);
    }

    private static void passCounts() {
        Post post = withRoute(3, 3, 4, 0, 5, 6, 0);
        post.post(3, 0, 0);
        post.post(3, 0, 0);
        post.post(5, 0, 0);
        Check.is("3 days", post.pass(3), 0);
        Check.is("2 more days", post.pass(2), 2);
        Check.is("1 more day", post.pass(1), 1);
        Check.is("today", post.today(), 6);
        post.post(5, 0, 0);
        Check.is("delivered by post, not by pass", post.pass(60), 0);
        Check.is("today at last", post.today(), 66);
    }

    private static void passWrong() {
        Post post = withRoute(3, 3, 4, 0);
        post.post(3, 0, 0);
        int[] noDays = {0, -1, 61, Integer.MIN_VALUE, Integer.MAX_VALUE};
        for (int days : noDays) {
            post.refuses("pass of " + days, Check.ARGUMENT, p -> p.pass(days));
        }
    }

    private static void lastDay() {
        Post post = new Post();
        for (int i = 0; i < 16; i++) {
            post.pass(60);
        }
        post.pass(39);
        post.refuses("to day 1001", Check.STATE, p -> p.pass(2));
        post.refuses("61 days", Check.ARGUMENT, p -> p.pass(61));
        Check.is("to day 1000", post.pass(1), 0);
        Check.is("today", post.today(), 1000);
        post.refuses("behind day 1000", Check.STATE, p -> p.pass(1));
        post.refuses("0 days on day 1000", Check.ARGUMENT, p -> p.pass(0));
        Check.is("strike on day 1000", post.strike(3, 60), 1060);
        post.addShip();
        post.call(0, 2, 1000, 30);
        post.tell(0, 2);
        post.post(2, 0, SeaPost.NONE);
        post.post(9, 0, SeaPost.NONE);
        Check.is("marks of day 1000", post.marksOf(0), "C1000!");
        Check.is("other marks of day 1000", post.marksOf(1), "J1000");
    }

    private static void aClosedPortHoldsWhatLies() {
        Post post = withRoute(5, 5, 20, 0);
        post.post(5, 0, SeaPost.NONE);
        post.post(9, 0, SeaPost.NONE);
        post.strike(5, 3);
        post.strike(9, 2);
        Check.is("waits until it is handled again", post.state(0), SeaPost.WAITS);
        Check.is("lost until it is handled again", post.state(1), SeaPost.LOST);
        post.pass(1);
        Check.is("held then", post.state(0), SeaPost.HELD);
        Check.is("the lost one too", post.state(1), SeaPost.HELD);
        Check.is("length of its marks", post.marks(0), 4);
        post.pass(1);
        Check.is("held again is not written again", post.marks(0), 4);
        Check.is("sent when its port opens", post.comesTo(1), 705);
        post.pass(1);
        Check.is("waits again", post.state(0), SeaPost.WAITS);
        post.strike(5, 2);
        post.pass(1);
        Check.is("held a second time is written", post.marks(0), 6);
    }

    private static void aClosedPortKeepsMailAtSea() {
        Post post = withRoute(0, 3, 2, 20);
        post.post(0, 0, SeaPost.NONE);
        Check.is("comesTo", post.comesTo(0), 403);
        post.strike(3, 6);
        Check.is("no letter comes", post.pass(5), 0);
        Check.is("at sea still", post.state(0), SeaPost.AT_SEA);
        Check.is("its day stays", post.comesTo(0), 403);
        Check.is("its marks stay", post.marksOf(0), "-A0>D");
        Check.is("comes when the port opens", post.pass(1), 1);
        Check.is("the day on which it came", post.marksOf(0), "-A0>D6!");
    }

    private static void deathAfterSixtyDays() {
        Post post = withRoute(5, 5, 63, 0);
        post.pass(3);
        post.post(5, 0, SeaPost.NONE);
        post.pass(1);
        post.post(5, 0, SeaPost.NONE);
        post.pass(58);
        Check.is("59 days old", post.state(0), SeaPost.WAITS);
        Check.is("the ship comes when it is 60 days old", post.pass(1), 1);
        Check.is("dead", post.state(0), SeaPost.DEAD);
        Check.is("the younger one is delivered", post.state(1), SeaPost.DELIVERED);
        Check.is("its marks", post.marksOf(0), "F3+");
        post.pass(7);
        Check.is("burnt", post.state(0), SeaPost.BURNT);
        Check.is("its marks when burnt", post.marksOf(0), "F3+*");
    }

    private static void deathOnComing() {
        Post post = withRoute(0, 9, 0, 30);
        post.pass(1);
        post.post(0, 0, 4);
        post.strike(9, 60);
        post.pass(30);
        post.strike(9, 42);
        post.pass(41);
        Check.is("71 days old, at sea", post.state(0), SeaPost.AT_SEA);
        post.pass(1);
        Check.is("dead when it comes", post.state(0), SeaPost.DEAD);
        Check.is("its marks", post.marksOf(0), "-A1>J73+");
        post.pass(7);
        Check.is("home", post.where(0), 4);
        Check.is("its marks at home", post.marksOf(0), "-A1>J73+<E");
    }

    private static void heldLettersDie() {
        Post post = withRoute(0, 0, 0, 30);
        post.strike(0, 60);
        post.post(0, 0, SeaPost.NONE);
        post.pass(30);
        post.strike(0, 60);
        post.pass(29);
        Check.is("held on day 59", post.state(0), SeaPost.HELD);
        post.pass(1);
        Check.is("dead and opened on day 60", post.state(0), SeaPost.BURNT);
        Check.is("its marks", post.marksOf(0), "A0" + (char) 55357 + (char) 57003 + "+*");
    }

    private static void officeDays() {
        Post post = withRoute(0);
        post.pass(5);
        post.post(1, 0, 8);
        post.post(2, 0, SeaPost.NONE);
        post.pass(60);
        Check.is("dead on day 65", post.state(0), SeaPost.DEAD);
        post.pass(4);
        Check.is("dead on day 69", post.state(1), SeaPost.DEAD);
        post.pass(1);
        Check.is("returned on day 70", post.state(0), SeaPost.RETURNED);
        Check.is("burnt on day 70", post.state(1), SeaPost.BURNT);
        post.pass(10);
        Check.is("opened once", post.marksOf(0), "B5+<I");
        Check.is("burnt once", post.marksOf(1), "C5+*");
    }
}
