import java.nio.charset.StandardCharsets;

/** What the tests share: counted checks, texts put into an object, and all that an object shows. */
final class Due {
    static int passed = 0;
    static int failed = 0;

    interface Call {
        void run();
    }

    private Due() {
    }

    static void is(String what, long got, long want) {
        note(got == want, what + " answered " + got + ", due is " + want);
    }

    static void is(String what, double got, double want) {
        note(Double.compare(got, want) == 0, what + " answered " + got + ", due is " + want);
    }

    static void is(String what, String got, String want) {
        note(got.equals(want), what + " answered\n  " + got + "\ndue is\n  " + want);
    }

    /** The call must throw just this class, and nothing that the object shows may change by it. */
    static void refuses(String what, LineBalls x, Class<?> type, Call call) {
        String before = all(x);
        String thrown = "nothing";
        try {
            call.run();
        } catch (RuntimeException e) {
            thrown = e.getClass().getSimpleName();
        }
        is(what + " throws", thrown, type.getSimpleName());
        is(what + " leaves all as it was", all(x), before);
    }

    private static void note(boolean right, String message) {
        if (right) {
            passed++;
        } else {
            failed++;
            System.out.println(message);
        }
    }

    /** Ends the test program; CI reads the line. */
    static void finish() {
        System.out.println(passed + " passed, " + failed + " failed");
        if (failed != 0) {
            System.exit(1);
        }
    }

    /** The five parameters of append() for these 20 bytes. */
    static int[] words(byte[] bytes, int from) {
        int[] five = new int[5];
        for (int i = 0; i < 20; i++) {
            int one = from + i < bytes.length ? bytes[from + i] & 255 : ' ';
            five[i / 4] = five[i / 4] << 8 | one;
        }
        return five;
    }

    /** Makes the text the whole content of the input buffer. */
    static void feed(LineBalls x, String text) {
        byte[] bytes = text.getBytes(StandardCharsets.ISO_8859_1);
        x.truncate(0);
        for (int from = 0; from < bytes.length; from += 20) {
            int[] five = words(bytes, from);
            x.append(five[0], five[1], five[2], five[3], five[4]);
        }
        x.truncate(bytes.length);
    }

    static int load(LineBalls x, String text) {
        feed(x, text);
        return x.load();
    }

    static LineBalls loaded(String text) {
        LineBalls x = new LineBalls();
        load(x, text);
        if (x.errorCode() != 0) {
            throw new IllegalArgumentException("a test's text has an error: " + text);
        }
        return x;
    }

    static int find(LineBalls x, String name) {
        feed(x, name);
        return x.find();
    }

    static String line(LineBalls x) {
        return output(x, x.writeLine());
    }

    static String balls(LineBalls x) {
        return output(x, x.writeBalls());
    }

    static String log(LineBalls x) {
        return output(x, x.writeLog());
    }

    private static String output(LineBalls x, int length) {
        String text = output(x);
        is("the length of the output", text.length(), length);
        return text;
    }

    static String output(LineBalls x) {
        StringBuilder text = new StringBuilder();
        try {
            while (true) {
                text.append((char) x.outputByte(text.length()));
            }
        } catch (java.util.NoSuchElementException end) {
            return text.toString();
        }
    }

    /** truncate() to the very length changes nothing and refuses each greater one. */
    static int inputLength(LineBalls x) {
        for (int length = 400; length > 0; length--) {
            try {
                x.truncate(length);
                return length;
            } catch (IllegalArgumentException longer) {
                continue;
            }
        }
        return 0;
    }

    /** What undo() and restore() bring back. */
    static String state(LineBalls x) {
        StringBuilder text = new StringBuilder();
        for (int what = 0; what <= 6; what++) {
            text.append("p").append(x.property(what)).append(' ');
        }
        for (int i = 0; i < x.property(1); i++) {
            for (int what = 0; what <= 7; what++) {
                text.append(x.ball(i, what)).append(',');
            }
            for (int other = 0; other < x.property(1); other++) {
                text.append('h').append(x.hits(i, other));
            }
            text.append(" in ").append(x.placed(i)).append(' ');
        }
        for (int cell = 0; cell < x.property(0); cell++) {
            text.append(x.at(cell)).append(',');
        }
        for (int i = 0; i < x.property(2); i++) {
            text.append(" post ").append(x.post(i, 0)).append(',').append(x.post(i, 1)).append(',').append(x.post(i, 2));
        }
        text.append(" walls ").append(x.wall(false, 0)).append(',').append(x.wall(false, 1));
        text.append(',').append(x.wall(true, 0)).append(',').append(x.wall(true, 1)).append(" log ");
        for (int i = 0; i < x.property(4); i++) {
            for (int what = 0; what <= 3; what++) {
                text.append(x.logged(i, what)).append(',');
            }
        }
        for (int what = 0; what <= 4; what++) {
            text.append(" a").append(x.account(what));
        }
        for (int what = 0; what <= 3; what++) {
            text.append(" c").append(x.count(what));
        }
        return text.toString();
    }

    /** All that an object shows without a change. */
    static String all(LineBalls x) {
        return state(x) + " undo " + x.undoCount() + " error " + x.errorCode() + "," + x.errorPosition()
                + " in " + inputLength(x) + " out " + output(x);
    }
}
