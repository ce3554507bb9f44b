/**
 * What the Edge tests share: objects to try calls on, and checks that a call changes nothing, neither
 * of what an object tells now nor of what it would tell later. What a check tells begins with the
 * promise (P1 to P55) or the section of the terms (T1 to T4, TE for the exceptions) that it is of.
 */
final class Edge {
    interface Maker {
        LineBalls make();
    }

    interface Call {
        void on(LineBalls x);
    }

    interface NumberCall {
        void on(LineBalls x, int number);
    }

    private static final String[] NAMES = {"a", "bb", "cccccc", "d", "e", "f", "q"};

    private Edge() {
    }

    // ---- objects ----

    static LineBalls fresh() {
        return new LineBalls();
    }

    /**
     * 3 balls (the last one without a name), 2 posts, a hit and two bounces in the log (the last one of a
     * removed ball), 6 calls to undo, slot 0 kept and slot 1 not, a parse error, a text in the input
     * buffer and one in the output.
     */
    static LineBalls busy() {
        LineBalls x = Due.loaded("box 12 steal 10 20;post 4 steal 30;post 11 steal 40;"
                + "ball cccccc at 0 speed -20 weight 1;ball a at 5 speed 60 weight 3;ball bb at 7 speed -60 weight 6;");
        x.pulse(3);
        x.keep(0);
        x.addBall(1, 5, 2);
        x.removeBall(0);
        x.kick(0, 3);
        x.turn(1);
        x.writeLog();
        Due.load(x, "box 9;");
        Due.feed(x, "box 13;ball q at 1 speed 2 weight 3;");
        return x;
    }

    /** 10 balls, 4 posts, 20 cells, a full log, 6 calls to undo, both slots kept, 400 bytes in the input buffer. */
    static LineBalls full() {
        LineBalls x = Due.loaded("box 20;post 0 steal 0;post 5 steal 0;post 10 steal 1;post 19 steal 100;"
                + "ball a at 1 speed -60 weight 1;ball bb at 2 speed 60 weight 2;ball cccccc at 3 speed -59 weight 3;"
                + "ball d at 4 speed 58 weight 20;ball e at 6 speed 60 weight 1;ball f at 18 speed 1 weight 7;");
        x.keep(0);
        for (int cell = 11; cell <= 14; cell++) {
            x.addBall(cell, cell % 2 == 0 ? -cell : 60, cell);
        }
        x.pulse(50);
        x.keep(1);
        x.pulse(30);
        x.kick(3, -2);
        x.writeLine();
        Due.feed(x, "box 13;ball q at 1 speed 2 weight 3;" + " ".repeat(364));
        return x;
    }

    /** 10 cells, and so many balls in the first of them; all rest. */
    static LineBalls withBalls(int count) {
        LineBalls x = new LineBalls();
        for (int i = 0; i < count; i++) {
            x.addBall(i, 0, 1);
        }
        return x;
    }

    /** A ball between two posts: each pulse is an entry of the log, which has so many. */
    static LineBalls withLog(int entries) {
        LineBalls x = Due.loaded("box 10;post 1 steal 0;post 3 steal 0;ball a at 2 speed 60 weight 1;");
        for (int i = 0; i < entries; i++) {
            x.pulse(1);
        }
        return x;
    }

    // ---- checks ----

    /** The call may have the numbers from low to high, and refuses all others. */
    static void range(String what, Class<?> type, Maker maker, int low, int high, NumberCall call) {
        for (int number : new int[] {low - 1, high + 1, Integer.MIN_VALUE, Integer.MAX_VALUE}) {
            refuses(what + " with " + number, type, maker, x -> call.on(x, number));
        }
        for (int number : new int[] {low, low + 1, high - 1, high}) {
            if (number >= low && number <= high) {
                allows(what + " with " + number, maker, x -> call.on(x, number));
            }
        }
    }

    /** The call needs a ball. */
    static void needsBall(String what, NumberCall call) {
        range(what + " of no ball", IndexOutOfBoundsException.class, Edge::fresh, 0, -1, call);
        range(what + " of 3 balls", IndexOutOfBoundsException.class, Edge::busy, 0, 2, call);
        range(what + " of 10 balls", IndexOutOfBoundsException.class, Edge::full, 0, 9, call);
    }

    static void refuses(String what, Class<?> type, Maker maker, Call call) {
        Due.is(what + " throws", thrown(maker.make(), call), type.getSimpleName());
        changesNothing(what, maker, call);
    }

    /** As refuses(), on an object without anything, on a busy one and on a full one. */
    static void refusesAlways(String what, Class<?> type, Call call) {
        refuses(what + " of a fresh object", type, Edge::fresh, call);
        refuses(what + " of a busy object", type, Edge::busy, call);
        refuses(what + " of a full object", type, Edge::full, call);
    }

    static void allows(String what, Maker maker, Call call) {
        Due.is(what + " throws", thrown(maker.make(), call), "nothing");
    }

    /** An ask: it throws nothing and changes nothing. */
    static void asks(String what, Maker maker, Call call) {
        allows(what, maker, call);
        changesNothing(what, maker, call);
    }

    static void changesNothing(String what, Maker maker, Call call) {
        LineBalls x = maker.make();
        thrown(x, call);
        Due.is(what + " leaves all that is told and the input", told(x), told(maker.make()));
        LineBalls y = maker.make();
        thrown(y, call);
        Due.is(what + " leaves names, past and slots", behind(y), behind(maker.make()));
    }

    static String thrown(LineBalls x, Call call) {
        try {
            call.on(x);
            return "nothing";
        } catch (RuntimeException e) {
            return e.getClass().getSimpleName();
        }
    }

    /** All that the object tells, and what its input buffer is read as; the input is gone behind it. */
    static String told(LineBalls x) {
        return Due.all(x) + " read as " + x.load() + "," + x.errorCode() + "," + x.errorPosition() + " " + Due.state(x);
    }

    /** The names, all that can be undone, and the slots; the object is another one behind it. */
    static String behind(LineBalls x) {
        StringBuilder text = new StringBuilder(named(x));
        while (x.undoCount() > 0) {
            text.append("\nundo ").append(x.undo()).append(' ').append(named(x));
        }
        for (int slot = 0; slot <= 1; slot++) {
            int one = slot;
            text.append("\nslot ").append(thrown(x, y -> y.restore(one))).append(' ').append(named(x));
        }
        return text.toString();
    }

    private static String named(LineBalls x) {
        return Due.state(x) + " log " + Due.log(x) + names(x);
    }

    private static String names(LineBalls x) {
        StringBuilder text = new StringBuilder(" names");
        for (String name : NAMES) {
            text.append(' ').append(Due.find(x, name));
        }
        return text.toString();
    }
}
