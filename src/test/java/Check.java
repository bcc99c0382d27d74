/** What the tests share: comparing, counting what is wrong, and pictures of all that an object answers. */
final class Check {
    interface Act {
        void run();
    }

    static final Class<? extends RuntimeException> INDEX = IndexOutOfBoundsException.class;
    static final Class<? extends RuntimeException> ARGUMENT = IllegalArgumentException.class;
    static final Class<? extends RuntimeException> STATE = IllegalStateException.class;

    private static int wrong = 0;
    private static int made = 0;

    private Check() {
    }

    static void is(String what, long got, long due) {
        made++;
        if (got != due) {
            tellWrong(what + " answered " + got + ", due is " + due);
        }
    }

    static void is(String what, boolean got, boolean due) {
        is(what, got ? 1 : 0, due ? 1 : 0);
    }

    static void is(String what, String got, String due) {
        made++;
        if (!got.equals(due)) {
            tellWrong(what + " answered " + got + ", due is " + due);
        }
    }

    static void fails(String what, Class<? extends RuntimeException> due, Act act) {
        made++;
        try {
            act.run();
            tellWrong(what + " threw nothing, due is " + due.getName());
        } catch (RuntimeException e) {
            if (e.getClass() != due) {
                tellWrong(what + " threw " + e.getClass().getName() + ", due is " + due.getName());
            } else if (!isThrownBySeaPost(e)) {
                tellWrong(what + " left it to the library to throw");
            }
        }
    }

    /** The program tests what it is given and throws by itself; neither the machine nor a list throws for it. */
    static boolean isThrownBySeaPost(RuntimeException e) {
        StackTraceElement[] calls = e.getStackTrace();
        return calls.length > 0 && calls[0].getClassName().startsWith("SeaPost");
    }

    /** As fails, and the object must answer all questions as before. */
    static void failsAndKeeps(SeaPost post, String what, Class<? extends RuntimeException> due, Act act) {
        String before = picture(post);
        fails(what, due, act);
        is("the picture after " + what, picture(post), before);
    }

    static String marks(SeaPost post, int letter) {
        StringBuilder text = new StringBuilder();
        for (int i = 0; i < post.marks(letter); i++) {
            text.append(post.markAt(letter, i));
        }
        return text.toString();
    }

    static String picture(SeaPost post) {
        StringBuilder text = new StringBuilder();
        text.append(post.today()).append(' ').append(post.letters());
        for (int port = 0; port < 10; port++) {
            text.append(post.isClosed(port) ? " closed " : " open ").append(post.lying(port));
        }
        for (int ship = 0; ship < 8; ship++) {
            addShip(text, post, ship);
        }
        for (int letter = 0; letter < post.letters(); letter++) {
            addLetter(text, post, letter);
        }
        return text.toString();
    }

    private static void addShip(StringBuilder text, SeaPost post, int ship) {
        try {
            text.append("\nship ").append(post.routes(ship)).append(' ').append(post.shipAt(ship));
        } catch (IndexOutOfBoundsException e) {
            return;
        }
        for (int port = 0; port < 10; port++) {
            text.append(' ').append(post.word(port, ship));
        }
        for (int place = 0; post.deliveredAs(ship, place) != SeaPost.NONE; place++) {
            text.append(" got ").append(post.deliveredAs(ship, place));
        }
    }

    private static void addLetter(StringBuilder text, SeaPost post, int letter) {
        text.append("\nletter ").append(post.state(letter)).append(' ').append(post.where(letter));
        text.append(' ').append(post.comesTo(letter)).append(' ').append(post.sentOn(letter));
        text.append(' ').append(marks(post, letter));
    }

    private static void tellWrong(String text) {
        wrong++;
        if (wrong <= 20) {
            System.out.println(text);
        }
    }

    static void end() {
        System.out.println(made + " checks, " + wrong + " wrong");
        if (wrong != 0) {
            System.exit(1);
        }
    }
}
