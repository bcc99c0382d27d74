import java.util.ArrayList;
import java.util.Comparator;
import java.util.List;

/** The document once more, as plain as can be, with texts and lists: what SeaPost is compared with on long walks. */
final class PlainPost {
    record Call(int port, int arrives, int leaves) {
    }

    record Route(int at, int on, List<Call> calls) {
    }

    static final class Letter {
        int ship;
        int home;
        int postedOn;
        int state = -1;
        int port;
        int comesOn;
        int sent;
        int deliveredOn = -1;
        String marks = "";
    }

    static final String HELD_SIGN = new String(Character.toChars(128683));

    int today = 0;
    final List<List<Call>> drafts = new ArrayList<>();
    final List<List<Route>> routes = new ArrayList<>();
    final List<Letter> letters = new ArrayList<>();
    final List<Integer> dead = new ArrayList<>();
    final List<Integer> delivered = new ArrayList<>();
    final int[] opens = new int[10];

    private static void index(boolean good) {
        if (!good) {
            throw new IndexOutOfBoundsException();
        }
    }

    private static void argument(boolean good) {
        if (!good) {
            throw new IllegalArgumentException();
        }
    }

    private static void state(boolean good) {
        if (!good) {
            throw new IllegalStateException();
        }
    }

    private static boolean isPort(int port) {
        return 0 <= port && port <= 9;
    }

    private boolean isShip(int ship) {
        return 0 <= ship && ship < routes.size();
    }

    private boolean isLetter(int letter) {
        return 0 <= letter && letter < letters.size();
    }

    int addShip() {
        state(routes.size() < 8);
        drafts.add(new ArrayList<>());
        routes.add(new ArrayList<>());
        return routes.size() - 1;
    }

    int call(int ship, int port, int arrives, int stays) {
        index(isShip(ship) && isPort(port));
        argument(0 <= arrives && arrives <= 1000 && 0 <= stays && stays <= 30);
        List<Call> draft = drafts.get(ship);
        state(draft.size() < 6 && draft.stream().allMatch(before -> before.leaves < arrives));
        draft.add(new Call(port, arrives, arrives + stays));
        return draft.size();
    }

    int tell(int ship, int port) {
        index(isShip(ship) && isPort(port));
        state(routes.get(ship).size() < 20);
        routes.get(ship).add(new Route(port, today, drafts.get(ship)));
        drafts.set(ship, new ArrayList<>());
        return routes.get(ship).size() - 1;
    }

    int shipAt(int ship) {
        index(isShip(ship));
        if (routes.get(ship).isEmpty()) {
            return -1;
        }
        List<Call> calls = routes.get(ship).get(routes.get(ship).size() - 1).calls;
        return calls.stream().filter(c -> c.arrives <= today && today <= c.leaves).mapToInt(Call::port).findFirst().orElse(-1);
    }

    int routes(int ship) {
        index(isShip(ship));
        return routes.get(ship).size();
    }

    int word(int port, int ship) {
        index(isPort(port) && isShip(ship));
        int word = -1;
        for (int i = 0; i < routes.get(ship).size(); i++) {
            Route route = routes.get(ship).get(i);
            int differ = port > route.at ? port - route.at : route.at - port;
            int takes = port == route.at ? 0 : (int) Math.floor((differ + 2) / 3.0);
            word = today >= route.on + takes ? i : word;
        }
        return word;
    }

    int behind(int ship) {
        index(isShip(ship));
        int count = 0;
        for (int port = 0; port < 10; port++) {
            count += word(port, ship) == routes(ship) - 1 ? 0 : 1;
        }
        return routes(ship) == 0 ? 0 : count;
    }

    int post(int port, int ship, int home) {
        index(isPort(port) && isShip(ship) && (home == -1 || isPort(home)));
        state(letters.size() < 40);
        Letter letter = new Letter();
        letter.ship = ship;
        letter.home = home;
        letter.postedOn = today;
        letter.port = port;
        letter.marks = "" + name(port) + today;
        letters.add(letter);
        handle(letters.size() - 1);
        return letters.size() - 1;
    }

    int strike(int port, int days) {
        index(isPort(port));
        argument(1 <= days && days <= 60);
        if (today + days > opens[port]) {
            opens[port] = today + days;
        }
        return opens[port];
    }

    boolean isClosed(int port) {
        index(isPort(port));
        return opens[port] > today;
    }

    int pass(int days) {
        argument(1 <= days && days <= 60);
        state(today + days <= 1000);
        int before = delivered.size();
        for (int i = 0; i < days; i++) {
            today++;
            for (int n = 0; n < letters.size(); n++) {
                day(n);
            }
            if (today % 10 == 0) {
                dead.forEach(this::open);
                dead.clear();
            }
        }
        return delivered.size() - before;
    }

    private void day(int n) {
        Letter letter = letters.get(n);
        boolean comes = letter.state == 3 && today >= letter.comesOn && !isClosed(letter.port);
        boolean lies = letter.state == 0 || letter.state == 2 || letter.state == 4;
        if (comes) {
            letter.marks += today;
        }
        if ((comes || lies) && today >= letter.postedOn + 60) {
            die(n);
        } else if (comes || lies) {
            handle(n);
        }
    }

    private void open(int n) {
        Letter letter = letters.get(n);
        letter.state = letter.home == -1 ? 7 : 6;
        letter.marks += letter.home == -1 ? "*" : "<" + name(letter.home);
    }

    private void die(int n) {
        letters.get(n).state = 5;
        letters.get(n).marks += "+";
        dead.add(n);
    }

    private void handle(int n) {
        Letter letter = letters.get(n);
        int here = letter.port;
        if (isClosed(here)) {
            letter.marks += letter.state == 0 ? "" : HELD_SIGN;
            letter.state = 0;
            return;
        }
        if (shipAt(letter.ship) == here) {
            letter.state = 1;
            letter.marks += "!";
            letter.deliveredOn = today;
            delivered.add(n);
            return;
        }
        int word = word(here, letter.ship);
        List<Call> calls = word == -1 ? List.of() : routes.get(letter.ship).get(word).calls;
        if (calls.stream().anyMatch(c -> c.port == here && c.arrives > today)) {
            letter.state = 2;
            return;
        }
        Call to = calls.stream().filter(c -> c.port != here && c.leaves >= mailDay(here, c))
            .min(Comparator.comparingInt(c -> Math.max(mailDay(here, c), c.arrives))).orElse(null);
        if (to == null) {
            letter.state = 4;
        } else if (letter.sent == 6) {
            die(n);
        } else {
            int last = lastPort(letter.marks);
            letter.marks = letter.marks.substring(0, last) + "-" + letter.marks.substring(last) + ">" + name(to.port);
            letter.sent++;
            letter.state = 3;
            letter.comesOn = mailDay(here, to);
            letter.port = to.port;
        }
    }

    private int mailDay(int here, Call call) {
        return today + (here > call.port ? here - call.port : call.port - here) + 1;
    }

    private static char name(int port) {
        return "ABCDEFGHIJ".charAt(port);
    }

    private static int lastPort(String marks) {
        int last = -1;
        for (int i = 0; i < marks.length(); i++) {
            last = "ABCDEFGHIJ".indexOf(marks.charAt(i)) >= 0 ? i : last;
        }
        return last;
    }

    int today() {
        return today;
    }

    int letters() {
        return letters.size();
    }

    int state(int letter) {
        index(isLetter(letter));
        return letters.get(letter).state;
    }

    int where(int letter) {
        index(isLetter(letter));
        Letter asked = letters.get(letter);
        int[] places = {asked.port, -3, asked.port, -2, asked.port, -4, asked.home, -4};
        return places[asked.state];
    }

    int comesTo(int letter) {
        index(isLetter(letter));
        Letter asked = letters.get(letter);
        return asked.state == 3 ? asked.comesOn * 100 + asked.port : -1;
    }

    int sentOn(int letter) {
        index(isLetter(letter));
        return letters.get(letter).sent;
    }

    int overtaken(int letter) {
        index(isLetter(letter));
        Letter asked = letters.get(letter);
        int count = 0;
        for (Letter other : letters.subList(0, letter)) {
            boolean both = asked.state == 1 && other.state == 1 && asked.ship == other.ship;
            count += both && asked.deliveredOn < other.deliveredOn ? 1 : 0;
        }
        return count;
    }

    int lying(int port) {
        index(isPort(port));
        return (int) letters.stream().filter(l -> l.port == port && (l.state == 0 || l.state == 2 || l.state == 4)).count();
    }

    int deadAt(int place) {
        index(0 <= place && place < dead.size());
        return dead.get(place);
    }

    int deliveredAs(int ship, int place) {
        index(isShip(ship));
        argument(place >= 0);
        return delivered.stream().filter(n -> letters.get(n).ship == ship).skip(place).findFirst().orElse(-1);
    }

    int marks(int letter) {
        index(isLetter(letter));
        return letters.get(letter).marks.length();
    }

    char markAt(int letter, int at) {
        index(isLetter(letter));
        index(0 <= at && at < marks(letter));
        return letters.get(letter).marks.charAt(at);
    }

    int written(int letter, int place) {
        index(isLetter(letter));
        index(place >= 0);
        String marks = letters.get(letter).marks;
        List<Integer> ports = new ArrayList<>();
        for (int i = 0; i < marks.length(); i++) {
            int port = "ABCDEFGHIJ".indexOf(marks.charAt(i));
            if (port >= 0) {
                ports.add(0, 10 * port + (i > 0 && marks.charAt(i - 1) == '-' ? 1 : 0));
            }
        }
        index(place < ports.size());
        return ports.get(place);
    }
}
