/** Promises 9 to 13: each boundary that they name, at the last value that is in and at the first that is out. */
public final class DaysEdgesTest {
    public static void main(String[] args) {
        postAtAPort();
        postForAShip();
        postFromAHome();
        fortyLettersAreInAFortyFirstIsOut();
        endedLettersCountAmongForty();
        firstExceptionOfPost();
        postOnTheFirstAndOnTheLastDay();
        strikeAtAPort();
        strikeFrom1To60Days();
        firstExceptionOfStrike();
        strikeThatLastsLongerOrNot();
        strikeBehindOneThatIsOver();
        strikeOnTheLastDay();
        strikesOfAllPorts();
        closedFromTodayToTheLastDay();
        isClosedAsksForAPort();
        passFrom1To60Days();
        passOnDayZero();
        passToDay1000();
        firstExceptionOfPass();
        passCountsFromTheFirstDayToTheLast();
        passCountsUpTo40();
        passCountsNothingElse();
        todayFrom0To1000();
        wholeWalksOf512Calls();
        Check.end();
    }

    private static void postAtAPort() {
        Post post = Make.route(0, 9, 3, 30);
        for (int port : Make.outside(0, 9)) {
            post.refuses("post at " + port, Check.INDEX, p -> p.post(port, 0, 4));
        }
        Check.is("post at 0", post.post(0, 0, 4), 0);
        for (int port : Make.outside(0, 9)) {
            post.refuses("post at " + port + " with a letter there", Check.INDEX, p -> p.post(port, 0, 4));
        }
        Check.is("post at 9", post.post(9, 0, 4), 1);
        Check.is("marks of port 0", post.marksOf(0), "-A0>J");
        Check.is("marks of port 9", post.marksOf(1), "J0");
    }

    private static void postForAShip() {
        int[] sizes = {1, 8};
        for (int ships : sizes) {
            Post post = Make.ships(ships);
            for (int ship : Make.outside(0, ships - 1)) {
                post.refuses("post for ship " + ship, Check.INDEX, p -> p.post(0, ship, 4));
            }
            Check.is("post for the first ship", post.post(0, 0, 4), 0);
            Check.is("post for the last ship", post.post(0, ships - 1, 4), 1);
        }
    }

    private static void postFromAHome() {
        Post post = Make.ships(1);
        for (int home : Make.outside(SeaPost.NONE, 9)) {
            post.refuses("post from " + home, Check.INDEX, p -> p.post(0, 0, home));
        }
        Check.is("post from no home", post.post(5, 0, -1), 0);
        Check.is("post from 0", post.post(5, 0, 0), 1);
        Check.is("post from 9", post.post(5, 0, 9), 2);
        Make.goTo(post, 60);
        Check.is("without a home it is burnt", post.state(0), SeaPost.BURNT);
        Check.is("home is 0", post.where(1), 0);
        Check.is("home is 9", post.where(2), 9);
    }

    private static void fortyLettersAreInAFortyFirstIsOut() {
        Post post = Make.ships(2);
        for (int i = 0; i < 40; i++) {
            int next = i;
            Check.is("state, not posted yet", post.answer(p -> p.state(next)), "throws." + Check.INDEX);
            Check.is("post", post.post(i % 10, i % 2, i % 11 - 1), i);
        }
        post.refuses("a 41st letter", Check.STATE, p -> p.post(0, 0, 0));
        post.refuses("a 41st letter for another ship", Check.STATE, p -> p.post(9, 1, -1));
        Check.is("letters", post.letters(), 40);
        Check.is("marks of the 40th", post.marksOf(39), "J0");
    }

    private static void endedLettersCountAmongForty() {
        Post post = Make.route(0, 3, 0, 5);
        for (int i = 0; i < 40; i++) {
            post.post(i < 20 ? 3 : 9, 0, i % 4 == 0 ? 7 : SeaPost.NONE);
        }
        Make.goTo(post, 70);
        Check.is("the first is delivered", post.state(0), SeaPost.DELIVERED);
        Check.is("the 21st is returned", post.state(20), SeaPost.RETURNED);
        Check.is("the 40th is burnt", post.state(39), SeaPost.BURNT);
        post.refuses("a 41st letter", Check.STATE, p -> p.post(0, 0, 0));
    }

    private static void firstExceptionOfPost() {
        Post post = Make.ships(1);
        for (int i = 0; i < 40; i++) {
            post.post(0, 0, 0);
        }
        for (int choice = 0; choice < 8; choice++) {
            int port = (choice & 1) != 0 ? 10 : 0;
            int ship = (choice & 2) != 0 ? -1 : 0;
            int home = (choice & 4) != 0 ? -2 : SeaPost.NONE;
            String due = "throws." + (choice == 0 ? Check.STATE : Check.INDEX);
            Check.is("post with wrong " + choice, post.answer(p -> p.post(port, ship, home)), due);
        }
        post.refuses("a 41st letter from no home", Check.INDEX, p -> p.post(0, 0, 10));
        Check.is("letters", post.letters(), 40);
    }

    private static void postOnTheFirstAndOnTheLastDay() {
        Post post = Make.route(4, 4, 0, 0, 4, 1000, 0);
        post.post(4, 0, 0);
        Check.is("delivered on day 0", post.state(0), SeaPost.DELIVERED);
        Make.goTo(post, 999);
        post.post(4, 0, 0);
        Check.is("waits on day 999", post.state(1), SeaPost.WAITS);
        Check.is("the last day delivers it", post.pass(1), 1);
        post.post(4, 0, 0);
        Check.is("delivered on day 1000", post.state(2), SeaPost.DELIVERED);
        Check.is("marks of day 1000", post.marksOf(2), "E1000!");
        post.post(3, 0, 0);
        Check.is("lost on day 1000", post.state(3), SeaPost.LOST);
    }

    private static void strikeAtAPort() {
        Post post = Make.ships(1);
        for (int port : Make.outside(0, 9)) {
            post.refuses("strike at " + port, Check.INDEX, p -> p.strike(port, 5));
        }
        Check.is("strike at 0", post.strike(0, 5), 5);
        Check.is("strike at 9", post.strike(9, 6), 6);
        for (int port = 1; port < 9; port++) {
            Check.is("no strike at " + port, post.isClosed(port), false);
        }
    }

    private static void strikeFrom1To60Days() {
        Post post = Make.ships(1);
        for (int days : Make.outside(1, 60)) {
            post.refuses("strike of " + days, Check.ARGUMENT, p -> p.strike(3, days));
        }
        Check.is("strike of 1", post.strike(3, 1), 1);
        Check.is("strike of 60", post.strike(4, 60), 60);
        for (int days : Make.outside(1, 60)) {
            post.refuses("further strike of " + days, Check.ARGUMENT, p -> p.strike(4, days));
        }
        Make.goTo(post, 33);
        Check.is("strike of 1 on day 33", post.strike(3, 1), 34);
        Check.is("strike of 60 on day 33", post.strike(4, 60), 93);
    }

    private static void firstExceptionOfStrike() {
        Post post = Make.ships(1);
        for (int port : Make.outside(0, 9)) {
            for (int days : Make.outside(1, 60)) {
                post.refuses("strike of " + days + " at " + port, Check.INDEX, p -> p.strike(port, days));
            }
        }
    }

    private static void strikeThatLastsLongerOrNot() {
        Post post = Make.ships(1);
        post.strike(2, 10);
        Check.is("a day shorter", post.strike(2, 9), 10);
        Check.is("as long", post.strike(2, 10), 10);
        Check.is("a day longer", post.strike(2, 11), 11);
        Make.goTo(post, 10);
        Check.is("closed on its last day", post.isClosed(2), true);
        Check.is("fewer days, to the same end", post.strike(2, 1), 11);
        Check.is("fewer days, but a later end", post.strike(2, 2), 12);
        Make.goTo(post, 11);
        Check.is("closed on the day more", post.isClosed(2), true);
        post.pass(1);
        Check.is("open then", post.isClosed(2), false);
        Post other = Make.ships(1);
        other.strike(2, 60);
        other.pass(1);
        Check.is("59 days to the same end", other.strike(2, 59), 60);
        Check.is("60 days to a later end", other.strike(2, 60), 61);
    }

    private static void strikeBehindOneThatIsOver() {
        Post post = Make.ships(1);
        post.strike(2, 3);
        Make.goTo(post, 3);
        Check.is("open on the day that it answered", post.isClosed(2), false);
        Check.is("a strike on this day", post.strike(2, 1), 4);
        Check.is("closed again", post.isClosed(2), true);
        post.pass(1);
        Check.is("open again", post.isClosed(2), false);
    }

    private static void strikeOnTheLastDay() {
        Post post = Make.ships(1);
        Make.goTo(post, 1000);
        Check.is("strike of 1 on day 1000", post.strike(0, 1), 1001);
        Check.is("strike of 60 on day 1000", post.strike(0, 60), 1060);
        Check.is("closed on day 1000", post.isClosed(0), true);
        post.post(0, 0, 3);
        Check.is("held on day 1000", post.state(0), SeaPost.HELD);
    }

    private static void strikesOfAllPorts() {
        Post post = Make.ships(1);
        for (int port = 0; port < 10; port++) {
            Check.is("strike at " + port, post.strike(port, port + 1), port + 1);
        }
        for (int day = 0; day <= 10; day++) {
            for (int port = 0; port < 10; port++) {
                Check.is("isClosed of " + port + " on " + day, post.isClosed(port), day <= port);
            }
            post.pass(1);
        }
    }

    private static void closedFromTodayToTheLastDay() {
        int[] lengths = {1, 2, 59, 60};
        for (int days : lengths) {
            Post post = Make.ships(1);
            Make.goTo(post, 5);
            Check.is("ahead of the strike", post.isClosed(7), false);
            Check.is("strike", post.strike(7, days), 5 + days);
            Check.is("today", post.isClosed(7), true);
            Make.goTo(post, 4 + days);
            Check.is("the last day", post.isClosed(7), true);
            post.pass(1);
            Check.is("the day that it answered", post.isClosed(7), false);
        }
    }

    private static void isClosedAsksForAPort() {
        Post post = Make.ships(1);
        post.strike(0, 2);
        for (int port : Make.outside(0, 9)) {
            post.refuses("isClosed of " + port, Check.INDEX, p -> p.isClosed(port) ? 1 : 0);
        }
        Check.is("isClosed of 0", post.isClosed(0), true);
        Check.is("isClosed of 9", post.isClosed(9), false);
        post.strike(9, 2);
        Check.is("isClosed of 9, struck", post.isClosed(9), true);
    }

    private static void passFrom1To60Days() {
        Post post = Make.route(3, 3, 1, 0);
        post.post(3, 0, 0);
        for (int days : Make.outside(1, 60)) {
            post.refuses("pass of " + days, Check.ARGUMENT, p -> p.pass(days));
        }
        Check.is("pass of 1", post.pass(1), 1);
        Check.is("today", post.today(), 1);
        Check.is("pass of 60", post.pass(60), 0);
        Check.is("today then", post.today(), 61);
        Check.is("pass of 59", post.pass(59), 0);
        Check.is("today at last", post.today(), 120);
    }

    private static void passOnDayZero() {
        Post post = Make.route(3, 3, 0, 0, 3, 2, 0);
        post.post(3, 0, 0);
        Check.is("delivered by post, so not by pass", post.pass(1), 0);
        post.post(3, 0, 0);
        Check.is("delivered by the day that passes", post.pass(1), 1);
        post.post(3, 0, 0);
        Check.is("delivered by post again", post.state(2), SeaPost.DELIVERED);
        Check.is("the days behind it deliver none", post.pass(60), 0);
    }

    private static void passToDay1000() {
        Post post = Make.route(0, 3, 0, 30);
        Make.goTo(post, 940);
        post.post(9, 0, 7);
        post.strike(2, 60);
        Post late = post.again();
        Check.is("60 days, to day 1000", post.pass(60), 0);
        Check.is("today", post.today(), 1000);
        Check.is("the office opens on day 1000", post.state(0), SeaPost.RETURNED);
        post.refuses("1 day behind day 1000", Check.STATE, p -> p.pass(1));
        post.refuses("60 days behind day 1000", Check.STATE, p -> p.pass(60));
        late.pass(1);
        late.refuses("60 days, to day 1001", Check.STATE, p -> p.pass(60));
        Check.is("59 days, to day 1000", late.pass(59), 0);
        Check.is("today of it", late.today(), 1000);
        Post last = Make.ships(1);
        Make.goTo(last, 999);
        last.refuses("2 days behind day 999", Check.STATE, p -> p.pass(2));
        Check.is("1 day behind day 999", last.pass(1), 0);
    }

    private static void firstExceptionOfPass() {
        Post post = Make.ships(1);
        Make.goTo(post, 1000);
        for (int days : Make.outside(1, 60)) {
            post.refuses("pass of " + days + " on day 1000", Check.ARGUMENT, p -> p.pass(days));
        }
    }

    /** Letters that are delivered on day 10, 11, 12, 13: those of the days that pass are counted, no others. */
    private static void passCountsFromTheFirstDayToTheLast() {
        Post post = Make.ships(4);
        for (int ship = 0; ship < 4; ship++) {
            Make.tell(post, ship, 5, 5, 10 + ship, 0);
            post.post(5, ship, 0);
        }
        Check.is("to day 9", post.pass(9), 0);
        Post twoDays = post.again();
        Check.is("to day 10", post.pass(1), 1);
        Check.is("to day 12", post.pass(2), 2);
        Check.is("to day 13", post.pass(1), 1);
        Check.is("to day 14", post.pass(1), 0);
        Check.is("day 10 and 11", twoDays.pass(2), 2);
        Check.is("day 12 and all behind it", twoDays.pass(60), 2);
    }

    private static void passCountsUpTo40() {
        Post post = Make.route(5, 5, 20, 0);
        for (int i = 0; i < 40; i++) {
            post.post(5, 0, 0);
        }
        Check.is("to day 19", post.pass(19), 0);
        Check.is("all on day 20", post.pass(1), 40);
        Check.is("none again", post.pass(1), 0);
    }

    private static void passCountsNothingElse() {
        Post post = Make.route(0, 3, 2, 0);
        post.post(0, 0, 7);
        post.post(9, 0, 7);
        post.post(9, 0, SeaPost.NONE);
        Check.is("they come, are lost, die and are opened", Make.goTo(post, 80), 0);
        Check.is("returned", post.state(1), SeaPost.RETURNED);
        Check.is("burnt", post.state(2), SeaPost.BURNT);
    }

    private static void todayFrom0To1000() {
        Post post = Make.ships(1);
        for (int day = 0; day < 120; day++) {
            Check.is("today", post.today(), day);
            post.pass(1);
        }
        Make.goTo(post, 999);
        Check.is("today", post.today(), 999);
        post.refuses("to day 1001", Check.STATE, p -> p.pass(2));
        Check.is("today still", post.today(), 999);
        post.pass(1);
        Check.is("today at last", post.today(), 1000);
        post.refuses("to day 1001 from there", Check.STATE, p -> p.pass(1));
        Check.is("today at last still", post.today(), 1000);
    }

    /** The 512 calls that are promised are answered, the last as the first, good ones and refused ones. */
    private static void wholeWalksOf512Calls() {
        Post days = Make.ships(1);
        while (days.calls() < 511) {
            days.pass(1);
        }
        Check.is("today behind 510 days", days.today(), 510);
        Post refused = Make.route(3, 3, 0, 0);
        while (refused.calls() < 511) {
            Check.is("a wrong call", refused.answer(p -> p.call(0, 10, 0, 0)), "throws." + Check.INDEX);
        }
        Check.is("shipAt behind wrong calls", refused.shipAt(0), 3);
        Post letters = Make.ships(1);
        for (int i = 0; i < 40; i++) {
            letters.post(9, 0, 0);
        }
        while (letters.calls() < 511) {
            letters.answer(p -> p.post(9, 0, 0));
        }
        Check.is("lying behind many letters", letters.lying(9), 40);
    }
}
