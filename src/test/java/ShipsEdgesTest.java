/** Promises 1 to 8: each boundary that they name, at the last value that is in and at the first that is out. */
public final class ShipsEdgesTest {
    private static final int MIN = Integer.MIN_VALUE;
    private static final int MAX = Integer.MAX_VALUE;

    public static void main(String[] args) {
        aNewObjectHasNoShips();
        aNewObjectHasNoLetters();
        aNewObjectIsOpenOnDayZero();
        eightShipsAreInANinthIsOut();
        callOfAShipThatIsThere();
        callAtAPort();
        callArrivesFrom0To1000();
        callStaysFrom0To30();
        aDraftHasAtMostSixCalls();
        aCallArrivesBehindTheLeavingOfTheOneBefore();
        theFirstCallArrivesOnAnyDay();
        noCallBehindDay1000();
        firstExceptionOfCall();
        tellOfAShipThatIsThere();
        tellAtAPort();
        twentyRoutesAreInATwentyFirstIsOut();
        allShipsHaveTwentyRoutes();
        anEmptyDraftIsTold();
        aFullDraftIsToldAndEmptyThen();
        firstExceptionOfTell();
        shipAtFromArrivingToLeaving();
        shipAtByCallsOnNeighbouringDays();
        shipAtOnTheFirstAndOnTheLastDay();
        shipAtWithoutRouteOrCalls();
        shipAtByTheRouteToldLast();
        routesFrom0To20();
        wordTakesItsDays();
        wordWithoutRoute();
        wordOfThoseThatHaveCome();
        wordToldOnOneDayInTwoPorts();
        wordOfATwentiethRoute();
        wordAsksForAPortAndAShip();
        behindFrom0To9();
        behindCountsOldAndNoWord();
        shipsThatAreAsked();
        Check.end();
    }

    private static void aNewObjectHasNoShips() {
        Post post = new Post();
        int[] ships = {0, -1, 1, MIN, MAX};
        for (int ship : ships) {
            post.refuses("call, no ships", Check.INDEX, p -> p.call(ship, 0, 0, 0));
            post.refuses("tell, no ships", Check.INDEX, p -> p.tell(ship, 0));
            post.refuses("shipAt, no ships", Check.INDEX, p -> p.shipAt(ship));
            post.refuses("routes, no ships", Check.INDEX, p -> p.routes(ship));
            post.refuses("word, no ships", Check.INDEX, p -> p.word(0, ship));
            post.refuses("behind, no ships", Check.INDEX, p -> p.behind(ship));
            post.refuses("post, no ships", Check.INDEX, p -> p.post(0, ship, SeaPost.NONE));
            post.refuses("deliveredAs, no ships", Check.INDEX, p -> p.deliveredAs(ship, 0));
        }
        Check.is("the first ship", post.addShip(), 0);
        Check.is("its first call", post.call(0, 0, 0, 0), 1);
        Check.is("its first route", post.tell(0, 0), 0);
    }

    private static void aNewObjectHasNoLetters() {
        Post post = new Post();
        Check.is("letters", post.letters(), 0);
        int[] letters = {0, -1, 1, MIN, MAX};
        for (int letter : letters) {
            for (LetterUses use : LetterUses.values()) {
                post.refuses(use + ", no letters", Check.INDEX, p -> use.of(p, letter, 0));
            }
            post.refuses("deadAt, no letters", Check.INDEX, p -> p.deadAt(letter));
        }
    }

    private static void aNewObjectIsOpenOnDayZero() {
        Post post = new Post();
        Check.is("today", post.today(), 0);
        for (int port = 0; port < 10; port++) {
            Check.is("isClosed", post.isClosed(port), false);
            Check.is("lying", post.lying(port), 0);
        }
        Check.is("a day passes without ships and letters", post.pass(1), 0);
        Check.is("60 days pass without ships and letters", post.pass(60), 0);
        Check.is("today behind them", post.today(), 61);
    }

    private static void eightShipsAreInANinthIsOut() {
        Post post = new Post();
        for (int ship = 0; ship < 8; ship++) {
            int next = ship;
            post.refuses("routes of a ship not there yet", Check.INDEX, p -> p.routes(next));
            Check.is("addShip", post.addShip(), ship);
            Check.is("routes of the new ship", post.routes(ship), 0);
            Check.is("shipAt of the new ship", post.shipAt(ship), SeaPost.NONE);
            Check.is("deliveredAs of the new ship", post.deliveredAs(ship, 0), SeaPost.NONE);
        }
        post.refuses("a 9th ship", Check.STATE, SeaPost::addShip);
        post.refuses("a 9th ship once more", Check.STATE, SeaPost::addShip);
        post.refuses("routes of the 9th ship", Check.INDEX, p -> p.routes(8));
        Check.is("the 8th ship goes on", post.call(7, 9, 0, 0), 1);
    }

    private static void callOfAShipThatIsThere() {
        int[] sizes = {1, 2, 8};
        for (int ships : sizes) {
            Post post = Make.ships(ships);
            for (int ship : Make.outside(0, ships - 1)) {
                post.refuses("call of ship " + ship, Check.INDEX, p -> p.call(ship, 0, 5, 1));
            }
            for (int ship = 0; ship < ships; ship++) {
                Check.is("call of ship " + ship, post.call(ship, ship, 5, 1), 1);
            }
        }
    }

    private static void callAtAPort() {
        Post post = Make.ships(1);
        for (int port : Make.outside(0, 9)) {
            post.refuses("call at " + port, Check.INDEX, p -> p.call(0, port, 5, 1));
        }
        Check.is("call at 0", post.call(0, 0, 0, 0), 1);
        Check.is("call at 9", post.call(0, 9, 1, 0), 2);
        post.tell(0, 0);
        Check.is("the ship is in 0", post.shipAt(0), 0);
        post.pass(1);
        Check.is("the ship is in 9", post.shipAt(0), 9);
    }

    private static void callArrivesFrom0To1000() {
        Post post = Make.ships(1);
        for (int day : Make.outside(0, 1000)) {
            post.refuses("arrives on " + day, Check.ARGUMENT, p -> p.call(0, 0, day, 0));
        }
        Check.is("arrives on 0", post.call(0, 0, 0, 0), 1);
        for (int day : Make.outside(0, 1000)) {
            post.refuses("arrives on " + day + ", with a draft", Check.ARGUMENT, p -> p.call(0, 0, day, 0));
        }
        Check.is("arrives on 1", post.call(0, 0, 1, 0), 2);
        Check.is("arrives on 999", post.call(0, 0, 999, 0), 3);
        Check.is("arrives on 1000", post.call(0, 0, 1000, 0), 4);
    }

    private static void callStaysFrom0To30() {
        Post post = Make.ships(1);
        for (int days : Make.outside(0, 30)) {
            post.refuses("stays " + days, Check.ARGUMENT, p -> p.call(0, 0, 5, days));
        }
        Check.is("stays 0", post.call(0, 3, 0, 0), 1);
        Check.is("stays 30", post.call(0, 4, 1, 30), 2);
        Check.is("stays 30 from day 1000 on", post.call(0, 4, 1000, 30), 3);
        post.tell(0, 0);
        Check.is("shipAt while it stays 0 days", post.shipAt(0), 3);
        Make.goTo(post, 31);
        Check.is("shipAt on the last day of 30", post.shipAt(0), 4);
        post.pass(1);
        Check.is("shipAt a day later", post.shipAt(0), SeaPost.NONE);
    }

    private static void aDraftHasAtMostSixCalls() {
        Post post = Make.ships(2);
        for (int i = 0; i < 6; i++) {
            Check.is("call", post.call(0, i, 2 * i, 1), i + 1);
        }
        post.refuses("a 7th call", Check.STATE, p -> p.call(0, 6, 12, 1));
        post.refuses("a 7th call at the end", Check.STATE, p -> p.call(0, 6, 1000, 30));
        post.refuses("a 7th call at the beginning", Check.STATE, p -> p.call(0, 6, 0, 0));
        Check.is("another ship has a draft of its own", post.call(1, 6, 0, 0), 1);
        post.tell(0, 5);
        for (int day = 0; day < 12; day++) {
            Check.is("shipAt by six calls", post.shipAt(0), day / 2);
            post.pass(1);
        }
        Check.is("shipAt behind them", post.shipAt(0), SeaPost.NONE);
        for (int i = 0; i < 6; i++) {
            Check.is("call of the next draft", post.call(0, i, 2 * i, 1), i + 1);
        }
        post.refuses("a 7th call of the next draft", Check.STATE, p -> p.call(0, 6, 12, 1));
    }

    private static void aCallArrivesBehindTheLeavingOfTheOneBefore() {
        int[] stays = {0, 1, 30};
        for (int stay : stays) {
            Post post = Make.ships(1);
            post.call(0, 3, 10, stay);
            for (int day = 0; day <= 10 + stay; day++) {
                int arrives = day;
                String answer = post.again().answer(p -> p.call(0, 4, arrives, 0));
                Check.is("arrives " + day + " where the one before leaves " + (10 + stay), answer, "throws." + Check.STATE);
            }
            post.refuses("arrives as the one before arrives", Check.STATE, p -> p.call(0, 4, 10, 0));
            post.refuses("arrives as the one before leaves", Check.STATE, p -> p.call(0, 4, 10 + stay, 0));
            Check.is("arrives a day later", post.call(0, 4, 11 + stay, 2), 2);
            post.refuses("arrives as the last one leaves", Check.STATE, p -> p.call(0, 5, 13 + stay, 0));
            Check.is("arrives behind the last one", post.call(0, 5, 14 + stay, 0), 3);
        }
    }

    private static void theFirstCallArrivesOnAnyDay() {
        Post post = Make.ships(1);
        Make.goTo(post, 50);
        Check.is("a day that is over", post.call(0, 3, 0, 0), 1);
        Check.is("another one", post.call(0, 4, 1, 30), 2);
        post.tell(0, 3);
        Check.is("the route told before does not count", post.call(0, 3, 0, 30), 1);
        post.tell(0, 3);
        Check.is("nor on the last day", post.call(0, 3, 1000, 30), 1);
    }

    private static void noCallBehindDay1000() {
        Post post = Make.ships(1);
        post.call(0, 3, 970, 30);
        post.refuses("arrives 1000 where the one before leaves 1000", Check.STATE, p -> p.call(0, 3, 1000, 0));
        post.refuses("arrives 1001 where the one before leaves 1000", Check.ARGUMENT, p -> p.call(0, 3, 1001, 0));
        Post other = Make.ships(1);
        other.call(0, 3, 1000, 30);
        other.refuses("arrives 1000 where the one before leaves 1030", Check.STATE, p -> p.call(0, 3, 1000, 0));
        other.refuses("arrives 1031 where the one before leaves 1030", Check.ARGUMENT, p -> p.call(0, 3, 1031, 0));
        Post third = Make.ships(1);
        third.call(0, 3, 969, 30);
        Check.is("arrives 1000 where the one before leaves 999", third.call(0, 3, 1000, 0), 2);
    }

    /** Every choice of wrong arguments and wrong states: the first of the throws clause is thrown. */
    private static void firstExceptionOfCall() {
        int[] noDays = Make.outside(0, 1000);
        int[] noStays = Make.outside(0, 30);
        for (int choice = 1; choice < 64; choice++) {
            Post post = Make.ships(1);
            boolean full = (choice & 16) != 0;
            boolean late = (choice & 32) != 0;
            for (int i = 0; i < (full ? 6 : 5); i++) {
                post.call(0, i, 10 + i, 0);
            }
            int ship = (choice & 1) != 0 ? 1 : 0;
            int port = (choice & 2) != 0 ? 10 : 0;
            int arrives = (choice & 4) != 0 ? noDays[choice % 4] : late ? 14 : 16;
            int stays = (choice & 8) != 0 ? noStays[choice / 4 % 4] : 0;
            String due = (choice & 3) != 0 ? Check.INDEX : (choice & 12) != 0 ? Check.ARGUMENT : Check.STATE;
            post.refuses("call with wrong " + choice, due, p -> p.call(ship, port, arrives, stays));
        }
    }

    private static void tellOfAShipThatIsThere() {
        int[] sizes = {1, 2, 8};
        for (int ships : sizes) {
            Post post = Make.ships(ships);
            post.call(0, 3, 5, 1);
            for (int ship : Make.outside(0, ships - 1)) {
                post.refuses("tell of ship " + ship, Check.INDEX, p -> p.tell(ship, 0));
            }
            for (int ship = 0; ship < ships; ship++) {
                Check.is("tell of ship " + ship, post.tell(ship, ship), 0);
            }
        }
    }

    private static void tellAtAPort() {
        Post post = Make.ships(1);
        post.call(0, 3, 5, 1);
        for (int port : Make.outside(0, 9)) {
            post.refuses("tell at " + port, Check.INDEX, p -> p.tell(0, port));
        }
        Check.is("tell at 0", post.tell(0, 0), 0);
        Check.is("tell at 9", post.tell(0, 9), 1);
        Check.is("word in 0", post.word(0, 0), 0);
        Check.is("word in 9", post.word(9, 0), 1);
    }

    private static void twentyRoutesAreInATwentyFirstIsOut() {
        Post post = Make.ships(2);
        for (int i = 0; i < 19; i++) {
            Check.is("tell", post.tell(0, i % 10), i);
        }
        Make.tell(post, 0, 4, 8, 0, 0, 6, 1, 0);
        Check.is("a 20th route is told", post.routes(0), 20);
        Check.is("the ship goes by it", post.shipAt(0), 8);
        post.refuses("a 21st route, without calls", Check.STATE, p -> p.tell(0, 4));
        for (int i = 0; i < 6; i++) {
            Check.is("a draft is kept with 20 routes", post.call(0, 2, 3 * i, 1), i + 1);
        }
        post.refuses("a 21st route, with six calls", Check.STATE, p -> p.tell(0, 4));
        post.refuses("a 7th call behind it", Check.STATE, p -> p.call(0, 2, 100, 0));
        Check.is("the ship goes by the 20th route still", post.shipAt(0), 8);
        Check.is("another ship has routes of its own", post.tell(1, 4), 0);
    }

    private static void allShipsHaveTwentyRoutes() {
        Post post = Make.ships(8);
        for (int i = 0; i < 160; i++) {
            Check.is("tell", post.tell(i % 8, i % 10), i / 8);
        }
        for (int ship = 0; ship < 8; ship++) {
            int full = ship;
            Check.is("a 21st route", post.answer(p -> p.tell(full, 0)), "throws." + Check.STATE);
            Check.is("routes", post.routes(ship), 20);
        }
    }

    private static void anEmptyDraftIsTold() {
        Post post = Make.ships(1);
        Check.is("tell without calls", post.tell(0, 5), 0);
        Check.is("its word", post.word(5, 0), 0);
        Check.is("where the ship is", post.shipAt(0), SeaPost.NONE);
        Check.is("tell without calls again", post.tell(0, 5), 1);
        Check.is("its word then", post.word(5, 0), 1);
    }

    private static void aFullDraftIsToldAndEmptyThen() {
        Post post = Make.ships(1);
        for (int i = 0; i < 6; i++) {
            post.call(0, 3, 2 * i, 0);
        }
        Check.is("tell six calls", post.tell(0, 3), 0);
        Check.is("the ship is there", post.shipAt(0), 3);
        Check.is("tell the draft that is empty then", post.tell(0, 3), 1);
        Check.is("the ship is nowhere", post.shipAt(0), SeaPost.NONE);
        Check.is("the first call of a third one", post.call(0, 3, 0, 0), 1);
    }

    private static void firstExceptionOfTell() {
        Post post = Make.ships(1);
        for (int i = 0; i < 20; i++) {
            post.tell(0, 0);
        }
        for (int port : Make.outside(0, 9)) {
            post.refuses("a 21st route at " + port, Check.INDEX, p -> p.tell(0, port));
        }
        for (int ship : Make.outside(0, 0)) {
            post.refuses("no ship", Check.INDEX, p -> p.tell(ship, 0));
            post.refuses("no ship, no port", Check.INDEX, p -> p.tell(ship, -1));
        }
    }

    private static void shipAtFromArrivingToLeaving() {
        int[] stays = {0, 1, 30};
        for (int stay : stays) {
            Post post = Make.route(0, 6, 10, stay);
            Make.goTo(post, 9);
            Check.is("a day ahead of arriving", post.shipAt(0), SeaPost.NONE);
            post.pass(1);
            Check.is("the day of arriving", post.shipAt(0), 6);
            Make.goTo(post, 10 + stay);
            Check.is("the day of leaving", post.shipAt(0), 6);
            post.pass(1);
            Check.is("a day behind leaving", post.shipAt(0), SeaPost.NONE);
        }
    }

    private static void shipAtByCallsOnNeighbouringDays() {
        Post post = Make.route(0, 6, 2, 1, 7, 4, 0, 6, 5, 0);
        int[] due = {-1, -1, 6, 6, 7, 6, -1};
        for (int day = 0; day < due.length; day++) {
            Check.is("shipAt on " + day, post.shipAt(0), due[day]);
            post.pass(1);
        }
    }

    private static void shipAtOnTheFirstAndOnTheLastDay() {
        Post post = Make.route(9, 0, 0, 0, 9, 1000, 30);
        Check.is("shipAt on day 0", post.shipAt(0), 0);
        Make.goTo(post, 999);
        Check.is("shipAt on day 999", post.shipAt(0), SeaPost.NONE);
        post.pass(1);
        Check.is("shipAt on day 1000", post.shipAt(0), 9);
    }

    private static void shipAtWithoutRouteOrCalls() {
        Post post = Make.ships(1);
        Check.is("shipAt without a route", post.shipAt(0), SeaPost.NONE);
        post.call(0, 4, 0, 30);
        Check.is("shipAt with a draft alone", post.shipAt(0), SeaPost.NONE);
        post.tell(0, 0);
        Check.is("shipAt with a route", post.shipAt(0), 4);
        post.tell(0, 0);
        Check.is("shipAt with a route without calls", post.shipAt(0), SeaPost.NONE);
    }

    /** The ship itself knows its new route at once, wherever it was told. */
    private static void shipAtByTheRouteToldLast() {
        Post post = Make.route(0, 4, 0, 30);
        Make.tell(post, 0, 9, 5, 0, 30);
        Check.is("shipAt", post.shipAt(0), 5);
        Check.is("the word in 0 is the first route", post.word(0, 0), 0);
        post.call(0, 6, 0, 30);
        Check.is("shipAt with a further draft", post.shipAt(0), 5);
    }

    private static void routesFrom0To20() {
        Post post = Make.ships(1);
        for (int i = 0; i < 20; i++) {
            Check.is("routes", post.routes(0), i);
            post.call(0, 0, 0, 0);
            Check.is("routes, with a draft more", post.routes(0), i);
            post.tell(0, 0);
        }
        Check.is("20 routes", post.routes(0), 20);
        post.refuses("a 21st route", Check.STATE, p -> p.tell(0, 0));
        Check.is("20 routes still", post.routes(0), 20);
    }

    private static void wordTakesItsDays() {
        // Days by the difference of the ports' numbers.
        int[] takes = {0, 1, 1, 1, 2, 2, 2, 3, 3, 3};
        for (int from = 0; from < 10; from++) {
            Post post = Make.ships(1);
            Make.goTo(post, 7);
            post.tell(0, from);
            for (int day = 7; day < 12; day++) {
                for (int to = 0; to < 10; to++) {
                    int due = day >= 7 + takes[Math.abs(from - to)] ? 0 : SeaPost.NONE;
                    Check.is("word from " + from + " in " + to + " on " + day, post.word(to, 0), due);
                }
                post.pass(1);
            }
        }
    }

    private static void wordWithoutRoute() {
        Post post = Make.ships(1);
        post.call(0, 3, 0, 30);
        Make.goTo(post, 20);
        for (int port = 0; port < 10; port++) {
            Check.is("word of a draft", post.word(port, 0), SeaPost.NONE);
        }
    }

    private static void wordOfThoseThatHaveCome() {
        Post post = Make.ships(1);
        post.tell(0, 0);
        post.pass(2);
        post.tell(0, 9);
        Check.is("none has come to 8", post.word(8, 0), SeaPost.NONE);
        post.pass(1);
        Check.is("both have come to 8: the one told last", post.word(8, 0), 1);
        Check.is("the first has come to 2", post.word(2, 0), 0);
        post.pass(1);
        Check.is("the last has not come to 2", post.word(2, 0), 0);
        post.pass(1);
        Check.is("the last has come to 2", post.word(2, 0), 1);
    }

    private static void wordToldOnOneDayInTwoPorts() {
        Post post = Make.ships(1);
        post.tell(0, 2);
        post.tell(0, 4);
        Check.is("word in 2", post.word(2, 0), 0);
        Check.is("word in 4", post.word(4, 0), 1);
        Check.is("word in 3", post.word(3, 0), SeaPost.NONE);
        post.pass(1);
        for (int port = 1; port < 6; port++) {
            Check.is("word in " + port + ", told last", post.word(port, 0), 1);
        }
        post.tell(0, 2);
        Check.is("word in 2, told again", post.word(2, 0), 2);
    }

    private static void wordOfATwentiethRoute() {
        Post post = Make.ships(1);
        for (int i = 0; i < 20; i++) {
            post.tell(0, i < 19 ? 0 : 9);
        }
        Check.is("word in 0", post.word(0, 0), 18);
        Check.is("word in 9", post.word(9, 0), 19);
        Check.is("behind", post.behind(0), 9);
        post.pass(3);
        Check.is("word in 0, three days later", post.word(0, 0), 19);
    }

    private static void wordAsksForAPortAndAShip() {
        Post post = Make.route(4, 4, 0, 5);
        for (int port : Make.outside(0, 9)) {
            post.refuses("word in " + port, Check.INDEX, p -> p.word(port, 0));
            post.refuses("word of no ship in " + port, Check.INDEX, p -> p.word(port, 1));
        }
        for (int ship : Make.outside(0, 0)) {
            post.refuses("word of ship " + ship, Check.INDEX, p -> p.word(4, ship));
        }
        Check.is("word in 0", post.word(0, 0), SeaPost.NONE);
        Check.is("word in 9", post.word(9, 0), SeaPost.NONE);
    }

    private static void behindFrom0To9() {
        Post post = Make.ships(2);
        Check.is("behind without a route", post.behind(0), 0);
        post.call(0, 3, 3, 3);
        Check.is("behind with a draft", post.behind(0), 0);
        post.tell(0, 9);
        int[] due = {9, 6, 3, 0};
        for (int day = 0; day < due.length; day++) {
            Check.is("behind on " + day, post.behind(0), due[day]);
            Check.is("behind of another ship", post.behind(1), 0);
            post.pass(1);
        }
    }

    private static void behindCountsOldAndNoWord() {
        Post post = Make.ships(1);
        post.tell(0, 0);
        post.pass(1);
        post.tell(0, 0);
        Check.is("4 with old word, 6 with none, but 0 itself", post.behind(0), 9);
        post.pass(1);
        Check.is("0 to 3 have it", post.behind(0), 6);
        post.tell(0, 0);
        Check.is("a third route", post.behind(0), 9);
        post.pass(3);
        Check.is("three days later", post.behind(0), 0);
    }

    private static void shipsThatAreAsked() {
        int[] sizes = {1, 8};
        for (int ships : sizes) {
            Post post = Make.ships(ships);
            post.tell(ships - 1, 0);
            for (int ship : Make.outside(0, ships - 1)) {
                post.refuses("shipAt of " + ship, Check.INDEX, p -> p.shipAt(ship));
                post.refuses("routes of " + ship, Check.INDEX, p -> p.routes(ship));
                post.refuses("behind of " + ship, Check.INDEX, p -> p.behind(ship));
                post.refuses("word of " + ship, Check.INDEX, p -> p.word(0, ship));
            }
            Check.is("shipAt of the last ship", post.shipAt(ships - 1), SeaPost.NONE);
            Check.is("routes of the last ship", post.routes(ships - 1), 1);
            Check.is("behind of the last ship", post.behind(ships - 1), 9);
            Check.is("word of the last ship", post.word(0, ships - 1), 0);
        }
    }
}
