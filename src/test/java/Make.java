/** What many tests begin with: objects with ships, days that have passed, routes that are told. */
final class Make {
    private Make() {
    }

    static Post ships(int ships) {
        Post post = new Post();
        for (int ship = 0; ship < ships; ship++) {
            post.addShip();
        }
        return post;
    }

    /** Answers how many letters were delivered on the way. */
    static int goTo(Post post, int day) {
        int delivered = 0;
        int today = post.today();
        while (today < day) {
            int days = Math.min(60, day - today);
            delivered += post.pass(days);
            today += days;
        }
        return delivered;
    }

    /** Three numbers a call: its port, the day of arriving, the days of staying. */
    static void tell(Post post, int ship, int toldAt, int... calls) {
        for (int i = 0; i + 2 < calls.length; i += 3) {
            post.call(ship, calls[i], calls[i + 1], calls[i + 2]);
        }
        post.tell(ship, toldAt);
    }

    /** One ship, with one route, which is told on the day 0. */
    static Post route(int toldAt, int... calls) {
        Post post = ships(1);
        tell(post, 0, toldAt, calls);
        return post;
    }

    /** The first numbers that are out of a range, and the ends of int. */
    static int[] outside(int least, int most) {
        return new int[] {least - 1, most + 1, Integer.MIN_VALUE, Integer.MAX_VALUE};
    }

    /**
     * Letter 0, told to come home to port 7, was sent on 6 times: from 0 to 1 on day 0, back on day 2 and so on. It
     * comes to port 0 on day 12; the word that 0 has is of a ship that goes to port 1 on day 900.
     */
    static Post sentSixTimes() {
        Post post = route(0, 1, 900, 0);
        post.post(0, 0, 7);
        for (int here = 1; post.today() < 10; here = 1 - here) {
            tell(post, 0, here, 1 - here, 900, 0);
            post.pass(2);
        }
        tell(post, 0, 0, 1, 900, 0);
        return post;
    }
}
