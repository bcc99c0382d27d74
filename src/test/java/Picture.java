/**
 * All that an object answers, as a text: what is different in it was changed. Each part is asked of a fresh object with
 * the same calls behind it, as asking takes calls too, and some of it (the drafts, how long strikes last) shows only in
 * what further calls do.
 */
final class Picture {
    private static final int SHIPS = 8;
    private static final int PORTS = 10;

    private Picture() {
    }

    static String of(Post post) {
        StringBuilder text = new StringBuilder();
        addDaysAndPorts(text, post.again());
        int ships = ships(post.again());
        text.append("\nships ").append(ships);
        for (int ship = 0; ship < ships; ship++) {
            addShip(text, post.again(), ship);
            addDraft(text, post, ship);
        }
        int letters = post.again().letters();
        for (int letter = 0; letter < letters; letter++) {
            addLetter(text, post.again(), letter);
        }
        return text.toString();
    }

    private static int ships(Post copy) {
        for (int ship = 0; ship < SHIPS; ship++) {
            int asked = ship;
            if (copy.answer(p -> p.routes(asked)).startsWith("throws")) {
                return ship;
            }
        }
        return SHIPS;
    }

    private static void addDaysAndPorts(StringBuilder text, Post copy) {
        text.append("today ").append(copy.today()).append(" letters ").append(copy.letters()).append("\nlying");
        for (int port = 0; port < PORTS; port++) {
            text.append(' ').append(copy.lying(port)).append(copy.isClosed(port) ? " closed" : " open");
        }
        text.append("\nclosed until");
        for (int port = 0; port < PORTS; port++) {
            text.append(' ').append(copy.strike(port, 1));
        }
        text.append("\ndead ");
        addRow(text, copy, SeaPost::deadAt);
    }

    interface Row {
        int at(SeaPost post, int place);
    }

    /** The answers for the places from 0 on, until one throws or is NONE. */
    private static void addRow(StringBuilder text, Post copy, Row row) {
        String answer = "";
        for (int place = 0; !answer.startsWith("throws") && !answer.equals("-1"); place++) {
            int asked = place;
            answer = copy.answer(p -> row.at(p, asked));
            text.append(answer).append(' ');
        }
    }

    private static void addShip(StringBuilder text, Post copy, int ship) {
        text.append("\nship ").append(ship).append(" routes ").append(copy.routes(ship));
        text.append(" at ").append(copy.shipAt(ship)).append(" behind ").append(copy.behind(ship)).append(" word");
        for (int port = 0; port < PORTS; port++) {
            text.append(' ').append(copy.word(port, ship));
        }
        text.append(" delivered ");
        addRow(text, copy, (p, place) -> p.deliveredAs(ship, place));
    }

    private static void addDraft(StringBuilder text, Post post, int ship) {
        text.append("\ndraft: a further call answers ").append(post.again().answer(p -> p.call(ship, 0, 1000, 0)));
        Post copy = post.again();
        text.append(", told it is ").append(copy.answer(p -> p.tell(ship, 0))).append(", and the ship goes to");
        for (int day = 0; day < 20; day++) {
            text.append(' ').append(copy.shipAt(ship));
            copy.answer(p -> p.pass(1));
        }
    }

    private static void addLetter(StringBuilder text, Post copy, int letter) {
        text.append("\nletter ").append(letter).append(" state ").append(copy.state(letter));
        text.append(" where ").append(copy.where(letter)).append(" by marks ").append(copy.whereByMarks(letter));
        text.append(" comes to ").append(copy.comesTo(letter)).append(" sent on ").append(copy.sentOn(letter));
        text.append(" has overtaken ").append(copy.overtaken(letter)).append(" marks ");
        int length = copy.marks(letter);
        for (int i = 0; i < length; i++) {
            text.append(copy.markAt(letter, i));
        }
        text.append(" written ");
        addRow(text, copy, (p, place) -> p.written(letter, place));
    }
}
