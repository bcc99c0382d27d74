import java.util.ArrayList;

/** Mail for seamen: letters that follow ships whose routes change. */
public final class SeaPost {
    public static final int NONE = -1;
    public static final int SEA = -2, ABOARD = -3, OFFICE = -4;
    public static final int HELD = 0, DELIVERED = 1, WAITS = 2, AT_SEA = 3, LOST = 4, DEAD = 5, RETURNED = 6, BURNT = 7;

    private static final int PORTS = 10;
    private static final int MOST_SHIPS = 8;
    private static final int MOST_ROUTES = 20;
    private static final int MOST_CALLS = 6;
    private static final int MOST_LETTERS = 40;
    private static final int MOST_SENDINGS = 6;
    private static final int LAST_DAY = 1000;
    private static final int LONGEST_STAY = 30;
    private static final int LONGEST_STRIKE = 60;
    private static final int LONGEST_PASS = 60;
    private static final int DAYS_TO_LIVE = 60;
    private static final int OFFICE_DAYS = 10;

    // At most 5 chars when posted, 7 for each of 6 sendings, 2 for each of 30 times HELD in 60 days, 3 at the end.
    private static final int MOST_MARKS = 128;

    // The two chars of the sign 128683.
    private static final char HELD_FIRST = (char) 55357;
    private static final char HELD_SECOND = (char) 57003;

    private final ArrayList<Ship> fleet = new ArrayList<>();
    private final ArrayList<Letter> mail = new ArrayList<>();
    private final ArrayList<Letter> deadMail = new ArrayList<>();
    private final int[] opensOn = new int[PORTS];
    private int day;
    private int deliveries;

    public SeaPost() {
    }

    // ---- ships and routes

    public int addShip() throws IllegalStateException {
        if (fleet.size() >= MOST_SHIPS) {
            throw new IllegalStateException("there are 8 ships");
        }
        fleet.add(new Ship());
        return fleet.size() - 1;
    }

    public int call(int ship, int port, int arrives, int stays)
            throws IndexOutOfBoundsException, IllegalArgumentException, IllegalStateException {
        needShip(ship);
        needPort(port);
        needRange(arrives, 0, LAST_DAY);
        needRange(stays, 0, LONGEST_STAY);
        Route draft = fleet.get(ship).draft;
        if (draft.calls >= MOST_CALLS) {
            throw new IllegalStateException("the draft has 6 calls");
        }
        if (arrives <= draft.lastLeaving()) {
            throw new IllegalStateException("the call before leaves on this day or later");
        }
        draft.addCall(port, arrives, arrives + stays);
        return draft.calls;
    }

    public int tell(int ship, int port) throws IndexOutOfBoundsException, IllegalStateException {
        needShip(ship);
        needPort(port);
        Ship teller = fleet.get(ship);
        if (teller.told.size() >= MOST_ROUTES) {
            throw new IllegalStateException("the ship has 20 routes");
        }
        teller.tellDraft(port, day);
        return teller.told.size() - 1;
    }

    public int shipAt(int ship) throws IndexOutOfBoundsException {
        needShip(ship);
        return fleet.get(ship).portOn(day);
    }

    public int routes(int ship) throws IndexOutOfBoundsException {
        needShip(ship);
        return fleet.get(ship).told.size();
    }

    public int word(int port, int ship) throws IndexOutOfBoundsException {
        needPort(port);
        needShip(ship);
        return fleet.get(ship).wordIn(port, day);
    }

    public int behind(int ship) throws IndexOutOfBoundsException {
        needShip(ship);
        Ship asked = fleet.get(ship);
        int last = asked.told.size() - 1;
        int count = 0;
        // Without a route last is NONE, and so is the word of every port: none is behind.
        for (int port = 0; port < PORTS; port++) {
            if (asked.wordIn(port, day) != last) {
                count++;
            }
        }
        return count;
    }

    // ---- letters and days

    public int post(int port, int ship, int home) throws IndexOutOfBoundsException, IllegalStateException {
        needPort(port);
        needShip(ship);
        if (home != NONE) {
            needPort(home);
        }
        if (mail.size() >= MOST_LETTERS) {
            throw new IllegalStateException("there are 40 letters");
        }
        Letter letter = new Letter(mail.size(), fleet.get(ship), port, home, day);
        mail.add(letter);
        letter.cover.writePort(port);
        letter.cover.writeDay(day);
        handle(letter);
        return letter.number;
    }

    public int strike(int port, int days) throws IndexOutOfBoundsException, IllegalArgumentException {
        needPort(port);
        needRange(days, 1, LONGEST_STRIKE);
        opensOn[port] = Math.max(opensOn[port], day + days);
        return opensOn[port];
    }

    public boolean isClosed(int port) throws IndexOutOfBoundsException {
        needPort(port);
        return isShut(port);
    }

    public int pass(int days) throws IllegalArgumentException, IllegalStateException {
        needRange(days, 1, LONGEST_PASS);
        if (day + days > LAST_DAY) {
            throw new IllegalStateException("today would be above 1000");
        }
        int before = deliveries;
        for (int i = 0; i < days; i++) {
            passOneDay();
        }
        return deliveries - before;
    }

    public int today() {
        return day;
    }

    // ---- where letters are

    public int letters() {
        return mail.size();
    }

    public int state(int letter) throws IndexOutOfBoundsException {
        needLetter(letter);
        return mail.get(letter).condition;
    }

    public int where(int letter) throws IndexOutOfBoundsException {
        needLetter(letter);
        return mail.get(letter).place();
    }

    public int whereByMarks(int letter) throws IndexOutOfBoundsException {
        needLetter(letter);
        return mail.get(letter).cover.placeRead();
    }

    public int comesTo(int letter) throws IndexOutOfBoundsException {
        needLetter(letter);
        Letter asked = mail.get(letter);
        return asked.condition == AT_SEA ? 100 * asked.comesOn + asked.port : NONE;
    }

    public int sentOn(int letter) throws IndexOutOfBoundsException {
        needLetter(letter);
        return mail.get(letter).sendings;
    }

    public int overtaken(int letter) throws IndexOutOfBoundsException {
        needLetter(letter);
        Letter asked = mail.get(letter);
        return asked.condition == DELIVERED ? asked.ship.countOvertakenBy(asked) : 0;
    }

    public int lying(int port) throws IndexOutOfBoundsException {
        needPort(port);
        int count = 0;
        for (int i = 0; i < mail.size(); i++) {
            Letter letter = mail.get(i);
            if (letter.isLying() && letter.port == port) {
                count++;
            }
        }
        return count;
    }

    public int deadAt(int place) throws IndexOutOfBoundsException {
        if (place < 0 || place >= deadMail.size()) {
            throw new IndexOutOfBoundsException("not so many letters are dead");
        }
        return deadMail.get(place).number;
    }

    public int deliveredAs(int ship, int place) throws IndexOutOfBoundsException, IllegalArgumentException {
        needShip(ship);
        if (place < 0) {
            throw new IllegalArgumentException("the place is below 0");
        }
        ArrayList<Letter> received = fleet.get(ship).received;
        return place < received.size() ? received.get(place).number : NONE;
    }

    // ---- marks

    public int marks(int letter) throws IndexOutOfBoundsException {
        needLetter(letter);
        return mail.get(letter).cover.length;
    }

    public char markAt(int letter, int index) throws IndexOutOfBoundsException {
        needLetter(letter);
        Cover cover = mail.get(letter).cover;
        if (index < 0 || index >= cover.length) {
            throw new IndexOutOfBoundsException("there is no such char");
        }
        return cover.signs[index];
    }

    public int written(int letter, int place) throws IndexOutOfBoundsException {
        needLetter(letter);
        Cover cover = mail.get(letter).cover;
        int index = cover.portIndex(place);
        if (index == NONE) {
            throw new IndexOutOfBoundsException("not so many ports are written");
        }
        return 10 * (cover.signs[index] - 'A') + (cover.standsBehind(index, '-') ? 1 : 0);
    }

    // ---- what arguments need

    private static void needPort(int port) {
        if (port < 0 || port >= PORTS) {
            throw new IndexOutOfBoundsException("there is no such port");
        }
    }

    private void needShip(int ship) {
        if (ship < 0 || ship >= fleet.size()) {
            throw new IndexOutOfBoundsException("there is no such ship");
        }
    }

    private void needLetter(int letter) {
        if (letter < 0 || letter >= mail.size()) {
            throw new IndexOutOfBoundsException("there is no such letter");
        }
    }

    private static void needRange(int value, int least, int most) {
        if (value < least || value > most) {
            throw new IllegalArgumentException("an argument is out of its range");
        }
    }

    // ---- ways

    private static int mailDays(int from, int to) {
        return Math.abs(from - to) + 1;
    }

    private static int wordDays(int from, int to) {
        return (Math.abs(from - to) + 2) / 3;
    }

    private boolean isShut(int port) {
        return day < opensOn[port];
    }

    // ---- how a day passes

    private void passOneDay() {
        day++;
        for (int i = 0; i < mail.size(); i++) {
            Letter letter = mail.get(i);
            if (!isDue(letter)) {
                continue;
            }
            if (letter.condition == AT_SEA) {
                letter.cover.writeDay(day);
            }
            if (day - letter.postedOn >= DAYS_TO_LIVE) {
                bury(letter);
            } else {
                handle(letter);
            }
        }
        if (day % OFFICE_DAYS == 0) {
            openDeadMail();
        }
    }

    /** Whether it comes to a port today, or lies in one, where it is handled again. */
    private boolean isDue(Letter letter) {
        if (letter.condition == AT_SEA) {
            return day >= letter.comesOn && !isShut(letter.port);
        }
        return letter.isLying();
    }

    private void openDeadMail() {
        for (int i = 0; i < deadMail.size(); i++) {
            deadMail.get(i).open();
        }
        deadMail.clear();
    }

    // ---- how an agent handles a letter

    private void handle(Letter letter) {
        if (isShut(letter.port)) {
            letter.hold();
        } else if (letter.ship.portOn(day) == letter.port) {
            deliver(letter);
        } else {
            handleByWord(letter);
        }
    }

    private void handleByWord(Letter letter) {
        int number = letter.ship.wordIn(letter.port, day);
        if (number == NONE) {
            letter.condition = LOST;
            return;
        }
        Route word = letter.ship.told.get(number);
        if (word.arrivesBehind(letter.port, day)) {
            letter.condition = WAITS;
            return;
        }
        int to = word.portOfMeeting(letter.port, day);
        if (to == NONE) {
            letter.condition = LOST;
        } else if (letter.sendings >= MOST_SENDINGS) {
            bury(letter);
        } else {
            letter.sendTo(to, day);
        }
    }

    private void deliver(Letter letter) {
        letter.condition = DELIVERED;
        letter.deliveredOn = day;
        letter.cover.write('!');
        letter.ship.received.add(letter);
        deliveries++;
    }

    private void bury(Letter letter) {
        letter.condition = DEAD;
        letter.cover.write('+');
        deadMail.add(letter);
    }

    /** A row of calls: a draft at first, a route when it has been told. */
    private static final class Route {
        final int[] ports = new int[MOST_CALLS];
        final int[] arrivals = new int[MOST_CALLS];
        final int[] leavings = new int[MOST_CALLS];
        int calls;
        int toldAt;
        int toldOn;

        void addCall(int port, int arrives, int leaves) {
            if (calls < MOST_CALLS) {
                ports[calls] = port;
                arrivals[calls] = arrives;
                leavings[calls] = leaves;
                calls++;
            }
        }

        /** NONE without calls, which is ahead of every day. */
        int lastLeaving() {
            return calls > 0 ? leavings[calls - 1] : NONE;
        }

        int portOn(int day) {
            for (int i = 0; i < calls; i++) {
                if (arrivals[i] <= day && day <= leavings[i]) {
                    return ports[i];
                }
            }
            return NONE;
        }

        boolean arrivesBehind(int port, int day) {
            for (int i = 0; i < calls; i++) {
                if (ports[i] == port && arrivals[i] > day) {
                    return true;
                }
            }
            return false;
        }

        /**
         * To which port mail is sent that leaves here on this day; NONE. The first call that it can meet has the
         * earliest meeting, as every later one begins when the ship has left that.
         */
        int portOfMeeting(int here, int day) {
            for (int i = 0; i < calls; i++) {
                if (ports[i] != here && leavings[i] >= day + mailDays(here, ports[i])) {
                    return ports[i];
                }
            }
            return NONE;
        }
    }

    /** A ship with its routes in the order in which they were told, and its letters in the order of delivery. */
    private static final class Ship {
        final ArrayList<Route> told = new ArrayList<>();
        final ArrayList<Letter> received = new ArrayList<>();
        Route draft = new Route();

        void tellDraft(int port, int day) {
            draft.toldAt = port;
            draft.toldOn = day;
            told.add(draft);
            draft = new Route();
        }

        int portOn(int day) {
            int last = told.size() - 1;
            return last >= 0 ? told.get(last).portOn(day) : NONE;
        }

        int wordIn(int port, int day) {
            for (int i = told.size() - 1; i >= 0; i--) {
                Route route = told.get(i);
                if (route.toldOn + wordDays(route.toldAt, port) <= day) {
                    return i;
                }
            }
            return NONE;
        }

        int countOvertakenBy(Letter letter) {
            int count = 0;
            for (int i = 0; i < received.size(); i++) {
                Letter other = received.get(i);
                if (other.number < letter.number && other.deliveredOn > letter.deliveredOn) {
                    count++;
                }
            }
            return count;
        }
    }

    private static final class Letter {
        final int number;
        final Ship ship;
        final int home;
        final int postedOn;
        final Cover cover = new Cover();
        // HELD is 0: a letter that was never handled must not look as if it had been HELD.
        int condition = NONE;
        // Where it lies, to which port it is on the way, or where it was last.
        int port;
        int comesOn;
        int sendings;
        int deliveredOn;

        Letter(int number, Ship ship, int port, int home, int postedOn) {
            this.number = number;
            this.ship = ship;
            this.port = port;
            this.home = home;
            this.postedOn = postedOn;
        }

        boolean isLying() {
            return condition == HELD || condition == WAITS || condition == LOST;
        }

        int place() {
            switch (condition) {
                case AT_SEA:
                    return SEA;
                case DELIVERED:
                    return ABOARD;
                case DEAD:
                case BURNT:
                    return OFFICE;
                default:
                    return port;
            }
        }

        void hold() {
            if (condition != HELD) {
                cover.write(HELD_FIRST);
                cover.write(HELD_SECOND);
            }
            condition = HELD;
        }

        void sendTo(int to, int day) {
            comesOn = day + mailDays(port, to);
            port = to;
            condition = AT_SEA;
            sendings++;
            cover.insert(cover.portIndex(0), '-');
            cover.write('>');
            cover.writePort(to);
        }

        /** What the office does with it when it is dead. */
        void open() {
            if (home == NONE) {
                condition = BURNT;
                cover.write('*');
            } else {
                condition = RETURNED;
                port = home;
                cover.write('<');
                cover.writePort(home);
            }
        }
    }

    /** The marks on a letter; an array, as a text may not hold the chars of the sign for HELD. */
    private static final class Cover {
        final char[] signs = new char[MOST_MARKS];
        int length;

        void write(char sign) {
            if (length < MOST_MARKS) {
                signs[length] = sign;
                length++;
            }
        }

        void writePort(int port) {
            write((char) ('A' + port));
        }

        void writeDay(int day) {
            // The last day is 1000, so no number has a greater unit.
            for (int unit = LAST_DAY; unit > 0; unit /= 10) {
                if (day >= unit || unit == 1) {
                    write((char) ('0' + day / unit % 10));
                }
            }
        }

        void insert(int index, char sign) {
            if (index < 0 || index > length || length >= MOST_MARKS) {
                return;
            }
            for (int i = length; i > index; i--) {
                signs[i] = signs[i - 1];
            }
            signs[index] = sign;
            length++;
        }

        /** The index of a port that is written, 0 for the latest one and so on back; NONE if not so many are. */
        int portIndex(int place) {
            int later = 0;
            for (int i = length - 1; i >= 0; i--) {
                if (signs[i] >= 'A' && signs[i] < 'A' + PORTS) {
                    if (later == place) {
                        return i;
                    }
                    later++;
                }
            }
            return NONE;
        }

        boolean standsBehind(int index, char sign) {
            return index > 0 && index <= length && signs[index - 1] == sign;
        }

        int placeRead() {
            if (standsBehind(length, '!')) {
                return ABOARD;
            }
            if (standsBehind(length, '+') || standsBehind(length, '*')) {
                return OFFICE;
            }
            int last = portIndex(0);
            if (last == NONE) {
                return NONE;
            }
            // A port that the letter has come to has the day of that behind it.
            boolean onTheWay = last == length - 1 && standsBehind(last, '>');
            return onTheWay ? SEA : signs[last] - 'A';
        }
    }
}
