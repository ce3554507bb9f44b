/** Promises 1 to 7 and section 1: the input buffer, texts and their errors, names. */
public final class ParseTests {
    public static void main(String[] args) {
        newObject();
        append();
        appendOrder();
        truncate();
        load();
        faultsOfBox();
        faultsOfPost();
        faultsOfBall();
        faultsOfSpeed();
        faultsAcrossStatements();
        faultsOfCounts();
        looseTexts();
        bounds();
        parseError();
        find();
        findBehindChanges();
        Due.finish();
    }

    // 1
    private static void newObject() {
        LineBalls x = new LineBalls();
        Due.is("all of a new object", Due.all(x), "p10 p0 p0 p0 p0 p0 p0 -1,-1,-1,-1,-1,-1,-1,-1,-1,-1,"
                + " walls 0,0,0,0 log  a0 a0 a0 a0 a0 c0 c0 c0 c0 undo 0 error 0,-1 in 0 out ");
        Due.refuses("restore(0) of a new object", x, Texts.STATE, () -> x.restore(0));
        Due.refuses("restore(1) of a new object", x, Texts.STATE, () -> x.restore(1));
        Due.refuses("outputByte(0) of a new object", x, Texts.NO_ELEMENT, () -> x.outputByte(0));
        Due.refuses("undo() of a new object", x, Texts.STATE, () -> x.undo());
        Due.is("a new line", Due.line(x), "..........");
        // It can be played on without a text.
        Due.is("addBall", x.addBall(9, 60, 1), 0);
        x.pulse(1);
        Due.is("a bounce", Due.balls(x), "0@9:-60");
    }

    // 2
    private static void append() {
        LineBalls x = new LineBalls();
        for (int i = 1; i <= 20; i++) {
            Due.is("append no. " + i, x.append(0x20202020, 0x20202020, 0x20202020, 0x20202020, 0x20202020), 20 * i);
        }
        Due.refuses("append beyond 400", x, Texts.STATE, () -> x.append(0, 0, 0, 0, 0));
        x.truncate(381);
        Due.refuses("append to 401", x, Texts.STATE, () -> x.append(0, 0, 0, 0, 0));
        x.truncate(380);
        Due.is("append to 400", x.append(-1, -1, -1, -1, -1), 400);
        Due.is("load of 400 bytes", x.load(), -4);
        Due.is("a byte 255 is a symbol", x.errorPosition(), 380);
    }

    private static void appendOrder() {
        LineBalls x = new LineBalls();
        Due.is("append", x.append(0x626f7820, 0x31302073, 0x7465616c, 0x20372038, 0x3b202020), 20);
        Due.is("load of 'box 10 steal 7 8;   '", x.load(), 0);
        Due.is("left wall", x.wall(false, 0), 7);
        Due.is("right wall", x.wall(true, 0), 8);
        // Bytes with the highest bit set are symbols of their own, whatever stands beside them.
        x.append(0x626f7820, 0x3130e13b, 0xffffffff, 0x80808080, 0);
        x.load();
        Due.is("code of a byte above 127", x.errorCode(), 1);
        Due.is("position of a byte above 127", x.errorPosition(), 6);
    }

    // 3
    private static void truncate() {
        LineBalls x = new LineBalls();
        Due.refuses("truncate(1) of nothing", x, Texts.ARGUMENT, () -> x.truncate(1));
        x.truncate(0);
        Due.feed(x, "box 10;box 20;");
        Due.refuses("truncate(15)", x, Texts.ARGUMENT, () -> x.truncate(15));
        Due.refuses("truncate(-1)", x, Texts.ARGUMENT, () -> x.truncate(-1));
        Due.refuses("truncate(least)", x, Texts.ARGUMENT, () -> x.truncate(Texts.LEAST));
        Due.refuses("truncate(most)", x, Texts.ARGUMENT, () -> x.truncate(Texts.MOST));
        x.truncate(14);
        x.truncate(7);
        Due.refuses("truncate(8)", x, Texts.ARGUMENT, () -> x.truncate(8));
        Due.is("append behind it", x.append(0, 0, 0, 0, 0), 27);
        x.truncate(7);
        Due.is("load of what is left", x.load(), 0);
        Due.is("input behind load", Due.inputLength(x), 0);
    }

    // 4
    private static void load() {
        LineBalls x = Due.loaded(Texts.TWO);
        Due.is("balls", Due.balls(x), "0@2:60 1@5:-30");
        Due.is("line", Due.line(x), "..0..1...#");
        x.pulse(20);
        x.kick(0, 5);
        x.keep(0);
        String before = Due.state(x);
        Due.is("load of an error", Due.load(x, "box 10;ball q at 1 speed 1 weight 1;x"), LineBalls.PARSE_ERROR);
        Due.is("input behind an error", Due.inputLength(x), 0);
        Due.is("state behind an error", Due.state(x), before);
        Due.is("undoCount behind an error", x.undoCount(), 3);
        String out = Due.output(x);
        Due.is("load", Due.load(x, "box 11 steal 1 2;ball q at 0 speed 7 weight 20;post 4 steal 9;"), 1);
        Due.is("output behind load", Due.output(x), out);
        Due.is("state behind load", Due.state(x), "p11 p1 p1 p0 p0 p0 p20 0,7,20,0,0,0,0,0,h0 in 0 "
                + "0,-1,-1,-1,-1,-1,-1,-1,-1,-1,-1, post 4,9,0 walls 1,0,2,0 log  a140 a980 a0 a0 a0 c0 c0 c0 c0");
        Due.is("undoCount behind load", x.undoCount(), 4);
        Due.is("error behind load", x.errorCode(), 0);
        Due.is("the slot stays", x.restore(0), 20);
        Due.is("state of the slot", Due.state(x), before);
        Due.is("names of the slot", Due.find(x, "a"), 0);
        Due.is("names of the text are gone", Due.find(x, "q"), -1);
        x.undo();
        x.undo();
        Due.is("load undone", Due.state(x), before);
    }

    private static void fault(String text, int code, int position) {
        LineBalls x = new LineBalls();
        Due.is("load of " + text, Due.load(x, text), -4);
        Due.is("errorCode of " + text, x.errorCode(), code);
        Due.is("errorPosition of " + text, x.errorPosition(), position);
        Due.is("undoCount of " + text, x.undoCount(), 0);
        Due.is("input of " + text, Due.inputLength(x), 0);
        Due.is("state of " + text, Due.state(x), Due.state(new LineBalls()));
    }

    private static void faultsOfBox() {
        fault("", 1, 0);
        fault("  \n ", 1, 4);
        fault("post 1 steal 1;", 1, 0);
        fault("ball a at 1 speed 1 weight 1;box 10;", 1, 0);
        fault("steal box", 1, 0);
        fault(";", 1, 0);
        fault(" boxx 10;", 1, 1);
        fault("bo", 1, 0);
        fault("bax 10;", 1, 0);
        fault("Box 10;", 1, 0);
        fault("10;", 1, 0);
        fault("box", 1, 3);
        fault("box ;", 1, 4);
        fault("box -10;", 1, 4);
        fault("box ten;", 1, 4);
        fault("box\t10;", 1, 3);
        fault("box 9;", 2, 4);
        fault("box 201;", 2, 4);
        fault("box 4294967306;", 2, 4);
        fault("box 10", 1, 6);
        fault("box 10  ", 1, 8);
        fault("box 10 10;", 1, 7);
        fault("box 10 post", 1, 7);
        fault("box 10 steal", 1, 12);
        fault("box 10 steal;", 1, 12);
        fault("box 10 steal 1;", 1, 14);
        fault("box 10 steal 101 1;", 2, 13);
        fault("box 10 steal 1 101;", 2, 15);
        fault("box 10 steal 1 1", 1, 16);
        fault("box 10 steal 1 1 1;", 1, 17);
        fault("box 10 steal 1 1 steal 1 1;", 1, 17);
        fault("box 10;;", 1, 7);
        fault("box 10; box 10;", 1, 8);
        fault("box 10;steal 1 1;", 1, 7);
        fault("box 10;10", 1, 7);
    }

    private static void faultsOfPost() {
        fault("box 10;post", 1, 11);
        fault("box 10;post steal", 1, 12);
        fault("box 10;post -1", 1, 12);
        fault("box 10;post 10 steal 1;", 2, 12);
        fault("box 10;post 9;", 1, 13);
        fault("box 10;post 9 steals 1;", 1, 14);
        fault("box 10;post 9 speed 1;", 1, 14);
        fault("box 10;post 9 steal ;", 1, 20);
        fault("box 10;post 9 steal 101;", 2, 20);
        fault("box 10;post 9 steal 1", 1, 21);
        fault("box 10;post 9 steal 1 1;", 1, 22);
        fault("box 10;post 9 steal 1;post 9", 4, 27);
        fault("box 10;post 9 steal 1;post 99999999999999999999999", 2, 27);
        fault("box 10;post 3 steal 1;ball b at 3", 4, 32);
    }

    private static void faultsOfBall() {
        fault("box 10;ball 1", 1, 12);
        fault("box 10;ball ;", 1, 12);
        fault("box 10;ball sevenxx at", 1, 12);
        fault("box 10;ball aB at", 1, 13);
        for (String word : new String[] {"box", "steal", "post", "ball", "at", "speed", "weight"}) {
            fault("box 10;ball " + word + " at 1 speed 1 weight 1;", 1, 12);
        }
        fault("box 10;ball a 1", 1, 14);
        fault("box 10;ball a at a", 1, 17);
        fault("box 10;ball a at -1", 1, 17);
        fault("box 10;ball a at 10 speed", 2, 17);
        fault("box 10;ball a at 9 weight", 1, 19);
        fault("box 10;ball a at 9 speed 6 wait", 1, 27);
        fault("box 10;ball a at 9 speed 6 weight 0;", 2, 34);
        fault("box 10;ball a at 9 speed 6 weight 21;", 2, 34);
        fault("box 10;ball a at 9 speed 6 weight -1;", 1, 34);
        fault("box 10;ball a at 9 speed 6 weight 1", 1, 35);
        fault("box 10;ball a at 9 speed 6 weight 1 1", 1, 36);
    }

    private static void faultsOfSpeed() {
        fault("box 10;ball a at 9 speed;", 1, 24);
        fault("box 10;ball a at 9 speed 61 weight", 2, 25);
        fault("box 10;ball a at 9 speed -61 weight", 2, 26);
        fault("box 10;ball a at 9 speed - 61 weight", 2, 27);
        fault("box 10;ball a at 9 speed --6 weight", 1, 26);
        fault("box 10;ball a at 9 speed -", 1, 26);
        fault("box 10;ball a at 9 speed -a", 1, 26);
        fault("box 10;ball a at 9 speed 6- weight", 1, 26);
        fault("box 10;ball a at 9 speed +6 weight", 1, 25);
    }

    private static void faultsAcrossStatements() {
        String one = "box 10;ball a at 9 speed 6 weight 1;";
        fault(one + "ball a at 99", 3, 41);
        fault(one + "ball b at 9", 4, 46);
        fault(one + "post 9", 4, 41);
        fault(one + "ball A", 1, 41);
        fault("box 10;ball abcdef at 9 speed 6 weight 1;ball abcdef", 3, 46);
        // The name alone makes a ball's name taken, not its beginning.
        Due.is("names that begin alike", Due.load(new LineBalls(),
                "box 10;ball abcdef at 9 speed 6 weight 1;ball abcde at 8 speed 6 weight 1;"), 2);
    }

    private static void faultsOfCounts() {
        String four = "box 10;post 0 steal 0;post 1 steal 0;post 2 steal 0;post 3 steal 0;";
        fault(four + "post", 5, 67);
        fault(four + "post 0 steal 0;", 5, 67);
        fault(four + "ball post", 1, 72);
        fault(four + "posts", 1, 67);
        StringBuilder ten = new StringBuilder("box 10;");
        for (int i = 0; i < 10; i++) {
            ten.append("ball ").append((char) ('a' + i)).append(" at ").append(i).append(" speed 1 weight 1;");
        }
        Due.is("ten balls", Due.load(new LineBalls(), ten.toString()), 10);
        Due.is("four posts", Due.loaded(four).property(2), 4);
        fault(ten + "ball", 5, ten.length());
        fault(ten + "ball a", 5, ten.length());
        fault(ten + "\n box", 1, ten.length() + 2);
        fault(ten + "post 0", 4, ten.length() + 5);
    }

    private static void looseTexts() {
        LineBalls x = Due.loaded("box10;ball abcde at0speed-60weight20;post\n1\nsteal100\n;\n");
        Due.is("spaces where words meet alone", Due.balls(x), "0@0:-60");
        Due.is("its post", x.post(0, 0) * 1000 + x.post(0, 1), 1100);
        fault("box10;ballabc at0speed-60weight20;", 1, 6);
        fault("box10;ball abcat 0speed-60weight20;", 1, 17);
        fault("box10;ball a1 at 0speed-60weight20;", 1, 12);
        fault("box 1 0;", 2, 4);
        fault("bo x 10;", 1, 0);
    }

    private static void bounds() {
        LineBalls x = Due.loaded("\n box 0010 steal 100 0000000000000000000000000000000000100 ;\n"
                + " ball abcdef at 09 speed - 60 weight 20 ; post 0 steal 100;ball b at 1 speed 60 weight 1;"
                + "ball zzzzzz at 2 speed -0 weight 2;");
        Due.is("bounds", Due.balls(x), "1@1:60 2@2:0 0@9:-60");
        Due.is("left wall", x.wall(false, 0), 100);
        Due.is("right wall", x.wall(true, 0), 100);
        Due.is("post", x.post(0, 1), 100);
        Due.is("weight", x.ball(0, 2), 20);
        LineBalls y = Due.loaded("box 10;");
        Due.is("0 without steal", y.wall(false, 0) * 1000 + y.wall(true, 0), 0);
        Due.is("200 cells", Due.loaded("box 200;").property(0), 200);
        Due.is("cell 199", Due.loaded("box 200;ball a at 199 speed 1 weight 1;").at(199), 0);
        Due.is("close tokens", Due.balls(Due.loaded("box10steal1 2;ball a at0speed-60weight20;")), "0@0:-60");
    }

    // 5 and 6
    private static void parseError() {
        LineBalls x = new LineBalls();
        Due.is("errorCode ahead of load", x.errorCode(), 0);
        Due.is("errorPosition ahead of load", x.errorPosition(), -1);
        Due.load(x, "box 10;x");
        Due.is("errorCode", x.errorCode(), 1);
        Due.is("errorPosition", x.errorPosition(), 7);
        x.tick(1);
        x.undo();
        Due.is("errorCode behind undo", x.errorCode(), 1);
        Due.is("errorPosition behind undo", x.errorPosition(), 7);
        Due.load(x, "box 10;");
        Due.is("errorCode behind success", x.errorCode(), 0);
        Due.is("errorPosition behind success", x.errorPosition(), -1);
        x.keep(0);
        Due.load(x, "box 1;");
        x.undo();
        Due.is("errorCode behind undo of the load", x.errorCode(), 2);
        Due.is("errorPosition behind undo of the load", x.errorPosition(), 4);
        x.restore(0);
        Due.is("errorCode behind restore", x.errorCode(), 2);
        Due.find(x, "box");
        Due.is("errorCode behind find", x.errorCode(), 2);
    }

    // 7
    private static void find() {
        LineBalls x = Due.loaded("box 20;ball zzzzzz at 1 speed 0 weight 1;ball a at 2 speed 0 weight 1;"
                + "ball aa at 3 speed 0 weight 1;ball b at 4 speed 0 weight 1;");
        Due.is("find zzzzzz", Due.find(x, "zzzzzz"), 0);
        Due.is("input behind find", Due.inputLength(x), 0);
        Due.is("find a", Due.find(x, "a"), 1);
        Due.is("find aa", Due.find(x, "aa"), 2);
        Due.is("find b", Due.find(x, "b"), 3);
        String[] none = {"A", "a ", " a", "zzzzzzz", "zzzzz", "`", "{", "c", "ba", "box", "ab\u00e1", "\u0161"};
        for (String name : none) {
            Due.is("find " + name, Due.find(x, name), -1);
            Due.is("input behind find in vain", Due.inputLength(x), 0);
        }
        Due.is("find of nothing", x.find(), -1);
    }

    private static void findBehindChanges() {
        LineBalls x = Due.loaded("box 20;ball c at 1 speed 0 weight 1;ball a at 2 speed 0 weight 1;"
                + "ball aa at 3 speed 0 weight 1;ball b at 4 speed 0 weight 1;");
        x.addBall(0, 0, 1);
        Due.is("find of nothing with a ball without a name", x.find(), -1);
        x.removeBall(1);
        Due.is("find of the removed one", Due.find(x, "a"), -1);
        Due.is("find of one behind it", Due.find(x, "b"), 2);
        x.undo();
        Due.is("find behind undo", Due.find(x, "a"), 1);
        x.removeBall(4);
        x.removeBall(3);
        x.addBall(10, 0, 1);
        Due.is("the last number has lost its name", Due.find(x, "b"), -1);
    }
}
