/** Promises 40 to 51 and account 4: changes, slots, undo. */
public final class ChangeTests {
    public static void main(String[] args) {
        kick();
        setWeight();
        setSteal();
        addBall();
        addBallRefused();
        removeBall();
        turn();
        stop();
        place();
        pushes();
        keep();
        restore();
        undo();
        undoOfEach();
        undoOfEachThatChangesNothing();
        undoOfAllThatIsTold();
        loadBehindAsks();
        undoCount();
        Due.finish();
    }

    // 40
    private static void kick() {
        LineBalls x = Due.loaded(Texts.TWO);
        Due.is("kick", x.kick(1, 50), 20);
        Due.is("speed", x.ball(1, 1), 20);
        Due.is("up to 60", x.kick(1, 60), 60);
        Due.is("no further", x.kick(0, 1), 60);
        Due.is("down", x.kick(0, -60), 0);
        Due.is("down to -60", x.kick(0, -60), -60);
        Due.is("no further down", x.kick(0, -60), -60);
        Due.is("account 4", x.account(4), 4 * 90 - 2 * 120);
        Due.refuses("kick(2, 61)", x, Texts.INDEX, () -> x.kick(2, 61));
        Due.refuses("kick(-1, 0)", x, Texts.INDEX, () -> x.kick(-1, 0));
        Due.refuses("kick(0, 61)", x, Texts.ARGUMENT, () -> x.kick(0, 61));
        Due.refuses("kick(0, -61)", x, Texts.ARGUMENT, () -> x.kick(0, -61));
        Due.refuses("kick(0, most)", x, Texts.ARGUMENT, () -> x.kick(0, Texts.MOST));
    }

    // 41
    private static void setWeight() {
        LineBalls x = Due.loaded(Texts.TWO);
        Due.is("setWeight", x.setWeight(0, 20), 2);
        Due.is("weight", x.ball(0, 2), 20);
        Due.is("account 4", x.account(4), 18 * 60);
        Due.is("setWeight back", x.setWeight(0, 1), 20);
        Due.is("account 4 behind both", x.account(4), -60);
        Due.refuses("setWeight(2, 0)", x, Texts.INDEX, () -> x.setWeight(2, 0));
        Due.refuses("setWeight(-1, 1)", x, Texts.INDEX, () -> x.setWeight(-1, 1));
        Due.refuses("setWeight(0, 0)", x, Texts.ARGUMENT, () -> x.setWeight(0, 0));
        Due.refuses("setWeight(0, 21)", x, Texts.ARGUMENT, () -> x.setWeight(0, 21));
    }

    // 42
    private static void setSteal() {
        LineBalls x = Due.loaded("box 10 steal 11 12;post 3 steal 13;post 4 steal 14;");
        Due.is("left wall", x.setSteal(-1, 100), 11);
        Due.is("right wall", x.setSteal(-2, 0), 12);
        Due.is("post 0", x.setSteal(0, 1), 13);
        Due.is("post 1", x.setSteal(1, 2), 14);
        Due.is("all", x.wall(false, 0) + "," + x.wall(true, 0) + "," + x.post(0, 1) + "," + x.post(1, 1), "100,0,1,2");
        Due.is("again", x.setSteal(-1, 5), 100);
        Due.refuses("setSteal(2, -1)", x, Texts.INDEX, () -> x.setSteal(2, -1));
        Due.refuses("setSteal(-3, 0)", x, Texts.INDEX, () -> x.setSteal(-3, 0));
        Due.refuses("setSteal(least, 0)", x, Texts.INDEX, () -> x.setSteal(Texts.LEAST, 0));
        Due.refuses("setSteal(-2, 101)", x, Texts.ARGUMENT, () -> x.setSteal(-2, 101));
        Due.refuses("setSteal(0, -1)", x, Texts.ARGUMENT, () -> x.setSteal(0, -1));
        Due.refuses("setSteal(-1, 101)", x, Texts.ARGUMENT, () -> x.setSteal(-1, 101));
    }

    // 43
    private static void addBall() {
        LineBalls x = Due.loaded(Texts.TWO);
        x.pulse(2);
        Due.is("addBall", x.addBall(0, -60, 20), 2);
        for (int what = 0; what <= 7; what++) {
            Due.is("new ball, " + what, x.ball(2, what), what == 1 ? -60 : what == 2 ? 20 : 0);
        }
        Due.is("account 4", x.account(4), -1200);
        Due.is("another one", x.addBall(8, 60, 1), 3);
        Due.is("account 4 behind both", x.account(4), -1140);
        Due.is("balls", Due.balls(x), "2@0:-60 0@3:-60 1@4:30 3@8:60");
        // The number of one that was removed is taken by one that has done nothing yet.
        LineBalls y = Due.loaded(Texts.TWO);
        y.pulse(9);
        y.removeBall(1);
        y.addBall(5, 1, 1);
        for (int what = 3; what <= 7; what++) {
            Due.is("new ball in an old number, " + what, y.ball(1, what), 0);
        }
        LineBalls z = busy();
        z.removeBall(2);
        z.addBall(29, 1, 1);
        for (int what = 3; what <= 7; what++) {
            Due.is("new ball in a busy number, " + what, z.ball(2, what), 0);
        }
    }

    /** Behind it the last ball has saved, gone, hit, bounced and waited. */
    private static LineBalls busy() {
        LineBalls x = Due.loaded("box 30;post 20 steal 0;ball a at 1 speed 0 weight 1;ball b at 9 speed 0 weight 1;"
                + "ball c at 7 speed 60 weight 1;");
        // It goes to 8 and hits b; it bounces at the post; it has saved more than b, and waits behind it.
        x.pulse(2);
        x.stop();
        x.place(2, 19);
        x.kick(2, 60);
        x.pulse(1);
        x.place(2, 10);
        x.kick(2, 15);
        x.pulse(1);
        x.kick(1, -45);
        x.pulse(1);
        for (int what = 3; what <= 7; what++) {
            Due.is("busy, " + what, x.ball(2, what) > 0 ? 1 : 0, 1);
        }
        return x;
    }

    private static void addBallRefused() {
        LineBalls x = Due.loaded(Texts.TWO);
        Due.refuses("addBall(-1)", x, Texts.INDEX, () -> x.addBall(-1, 61, 0));
        Due.refuses("addBall(10)", x, Texts.INDEX, () -> x.addBall(10, 0, 1));
        Due.refuses("addBall speed 61", x, Texts.ARGUMENT, () -> x.addBall(2, 61, 1));
        Due.refuses("addBall speed -61", x, Texts.ARGUMENT, () -> x.addBall(0, -61, 1));
        Due.refuses("addBall weight 0", x, Texts.ARGUMENT, () -> x.addBall(9, 0, 0));
        Due.refuses("addBall weight 21", x, Texts.ARGUMENT, () -> x.addBall(0, 0, 21));
        Due.refuses("addBall to a ball", x, Texts.STATE, () -> x.addBall(2, 0, 1));
        Due.refuses("addBall to a post", x, Texts.STATE, () -> x.addBall(9, 0, 1));
        LineBalls y = Due.loaded("box 20;");
        for (int i = 0; i < 10; i++) {
            Due.is("addBall no. " + i, y.addBall(i, 0, 1), i);
        }
        Due.refuses("addBall no. 11", y, Texts.STATE, () -> y.addBall(10, 0, 1));
        Due.refuses("addBall no. 11 in no cell", y, Texts.INDEX, () -> y.addBall(20, 0, 1));
        Due.refuses("addBall no. 11 without weight", y, Texts.ARGUMENT, () -> y.addBall(10, 0, 0));
        y.removeBall(0);
        Due.is("addBall in its place", y.addBall(0, 0, 1), 9);
    }

    // 44
    private static void removeBall() {
        LineBalls x = Due.loaded("box 10;ball a at 7 speed 3 weight 2;ball b at 0 speed -4 weight 5;ball c at 5 speed 0 weight 1;");
        Due.is("removeBall", x.removeBall(0), 2);
        Due.is("balls", Due.balls(x), "0@0:-4 1@5:0");
        Due.is("weight moves", x.ball(0, 2), 5);
        Due.is("account 4", x.account(4), -6);
        Due.refuses("removeBall(2)", x, Texts.INDEX, () -> x.removeBall(2));
        Due.refuses("removeBall(-1)", x, Texts.INDEX, () -> x.removeBall(-1));
        Due.is("the last one", x.removeBall(1), 1);
        Due.is("the only one", x.removeBall(0), 0);
        Due.is("account 4 behind all", x.account(4), 14);
        Due.is("none left", Due.balls(x), "");
        Due.refuses("removeBall(0)", x, Texts.INDEX, () -> x.removeBall(0));
        x.pulse(60);
        Due.is("time passes", x.property(3), 60);
    }

    // 45
    private static void turn() {
        LineBalls x = Due.loaded(Texts.TWO);
        Due.is("turn", x.turn(0), -60);
        Due.is("account 4", x.account(4), -240);
        Due.is("turn back", x.turn(0), 60);
        Due.is("turn 1", x.turn(1), 30);
        Due.is("account 4 behind all", x.account(4), 240);
        Due.is("speeds", Due.balls(x), "0@2:60 1@5:30");
        x.stop();
        Due.is("turn at rest", x.turn(1), 0);
        Due.refuses("turn(2)", x, Texts.INDEX, () -> x.turn(2));
        Due.refuses("turn(-1)", x, Texts.INDEX, () -> x.turn(-1));
    }

    // 46
    private static void stop() {
        LineBalls x = Due.loaded(Texts.TWO);
        x.addBall(0, 0, 1);
        x.kick(0, -1);
        x.pulse(1);
        Due.is("stop", x.stop(), 2);
        Due.is("speeds", Due.balls(x), "2@0:0 0@2:0 1@5:0");
        Due.is("saved stays", x.ball(0, 3) * 100 + x.ball(1, 3), 5930);
        Due.is("account 4", x.account(4), -2 + 2);
        Due.is("push", x.account(0), 0);
        Due.is("stop again", x.stop(), 0);
        LineBalls y = Due.loaded("box 10;ball a at 7 speed 3 weight 2;");
        y.stop();
        Due.is("account 4 of one", y.account(4), -6);
    }

    // 47
    private static void place() {
        LineBalls x = Due.loaded(Texts.THREE);
        x.kick(0, 20);
        x.pulse(1);
        Due.is("place", x.place(0, 9), 2);
        Due.is("line", Due.line(x), "....#1#2.0");
        Due.is("saved stays", x.ball(0, 3), 20);
        Due.is("its own cell", x.place(0, 9), 9);
        Due.is("no cells gone", x.ball(0, 4) + x.count(3), 0);
        Due.is("undoCount", x.undoCount(), 5);
        Due.refuses("place to a ball", x, Texts.STATE, () -> x.place(0, 7));
        Due.refuses("place to a post", x, Texts.STATE, () -> x.place(0, 4));
        Due.refuses("place(3, 0)", x, Texts.INDEX, () -> x.place(3, 0));
        Due.refuses("place(-1, 4)", x, Texts.INDEX, () -> x.place(-1, 4));
        Due.refuses("place(0, 10)", x, Texts.INDEX, () -> x.place(0, 10));
        Due.refuses("place(0, -1)", x, Texts.INDEX, () -> x.place(0, -1));
        // The turns go by the new cells.
        LineBalls y = Due.loaded("box 10;ball a at 1 speed 60 weight 1;ball b at 5 speed 60 weight 1;");
        y.place(0, 6);
        y.pulse(1);
        Due.is("turns behind place", Due.balls(y), "1@6:60 0@7:60");
    }

    // 18: account 4 is of six calls alone
    private static void pushes() {
        LineBalls x = Due.loaded(Texts.TWO);
        x.keep(0);
        x.setSteal(-1, 0);
        x.place(0, 8);
        x.tick(1);
        Due.is("others push nothing", x.account(4), 0);
        x.kick(0, 60);
        long kicked = x.account(4);
        x.restore(0);
        Due.is("restored", x.account(4), 0);
        x.undo();
        Due.is("undone", x.account(4), kicked);
        Due.load(x, Texts.TWO);
        Due.is("since load", x.account(4), 0);
    }

    // 48
    private static void keep() {
        LineBalls x = Due.loaded(Texts.TWO);
        Due.refuses("keep(-1)", x, Texts.INDEX, () -> x.keep(-1));
        Due.refuses("keep(2)", x, Texts.INDEX, () -> x.keep(2));
        x.pulse(7);
        Due.is("keep", x.keep(1), 7);
        String first = Due.state(x);
        Due.is("keep is not undone", x.undoCount(), 2);
        Due.refuses("restore of the other slot", x, Texts.STATE, () -> x.restore(0));
        x.pulse(5);
        Due.is("keep in the other slot", x.keep(0), 12);
        String second = Due.state(x);
        x.undo();
        x.undo();
        x.undo();
        Due.is("undo leaves the slots", x.restore(1), 7);
        Due.is("state of slot 1", Due.state(x), first);
        Due.is("restore the other", x.restore(0), 12);
        Due.is("state of slot 0", Due.state(x), second);
        x.removeBall(0);
        x.keep(1);
        x.restore(0);
        x.restore(1);
        Due.is("in place of what was there", x.property(1), 1);
    }

    // 49
    private static void restore() {
        LineBalls x = Due.loaded(Texts.TWO);
        Due.refuses("restore(-1)", x, Texts.INDEX, () -> x.restore(-1));
        Due.refuses("restore(2)", x, Texts.INDEX, () -> x.restore(2));
        Due.refuses("restore(0) of nothing", x, Texts.STATE, () -> x.restore(0));
        x.pulse(2);
        x.keep(0);
        String kept = Due.state(x);
        x.removeBall(0);
        x.pulse(30);
        String later = Due.state(x);
        x.writeBalls();
        Due.feed(x, "xyz");
        Due.is("restore", x.restore(0), 2);
        Due.is("state", Due.state(x), kept);
        Due.is("the output stays", Due.output(x).length() > 0 ? 1 : 0, 1);
        Due.is("the input stays", Due.inputLength(x), 3);
        Due.is("what can be undone is not of the slot", x.undoCount(), 5);
        x.kick(0, 7);
        Due.is("restore again", x.restore(0), 2);
        Due.is("the slot keeps it", Due.state(x), kept);
        x.undo();
        x.undo();
        x.undo();
        Due.is("restore undone", Due.state(x), later);
    }

    // 50
    private static void undo() {
        LineBalls x = Due.loaded(Texts.TWO);
        String[] states = new String[9];
        for (int i = 0; i < 8; i++) {
            states[i] = Due.state(x);
            x.pulse(i + 1);
        }
        x.writeBalls();
        String out = Due.output(x);
        Due.feed(x, "abc");
        for (int left = 5; left >= 0; left--) {
            Due.is("undo", x.undo(), left);
            Due.is("state with " + left + " left", Due.state(x), states[left + 2]);
        }
        Due.is("output", Due.output(x), out);
        Due.is("input", Due.inputLength(x), 3);
        Due.refuses("undo of nothing", x, Texts.STATE, () -> x.undo());
        // Behind undo the next calls can be undone, those undone are gone.
        x.kick(0, -1);
        Due.is("one again", x.undo(), 0);
        Due.is("state behind it", Due.state(x), states[2]);
    }

    private static void undone(String what, LineBalls x, String before, int count) {
        Due.is("undoCount behind " + what, x.undoCount(), count);
        x.undo();
        Due.is("state behind undo of " + what, Due.state(x), before);
        Due.is("undoCount behind undo of " + what, x.undoCount(), count - 1);
    }

    private static void undoOfEach() {
        LineBalls x = Due.loaded(Texts.TWO);
        x.pulse(6);
        x.keep(0);
        x.pulse(1);
        String before = Due.state(x);
        x.pulse(40);
        undone("pulse", x, before, 4);
        x.tick(2);
        undone("tick", x, before, 4);
        x.kick(0, 3);
        undone("kick", x, before, 4);
        x.setWeight(0, 3);
        undone("setWeight", x, before, 4);
        x.setSteal(0, 3);
        undone("setSteal of a post", x, before, 4);
        x.setSteal(-2, 3);
        undone("setSteal of a wall", x, before, 4);
        x.addBall(7, 1, 1);
        undone("addBall", x, before, 4);
        x.removeBall(0);
        undone("removeBall", x, before, 4);
        x.turn(1);
        undone("turn", x, before, 4);
        x.stop();
        undone("stop", x, before, 4);
        x.place(1, 8);
        undone("place", x, before, 4);
        x.restore(0);
        undone("restore", x, before, 4);
        Due.load(x, "box 10;");
        undone("load", x, before, 4);
        Due.is("find behind undo of load", Due.find(x, "b"), 1);
    }

    private static void undoOfEachThatChangesNothing() {
        LineBalls x = Due.loaded(Texts.THREE);
        String before = Due.state(x);
        x.kick(0, 0);
        undone("kick by 0", x, before, 2);
        x.setWeight(0, 1);
        undone("setWeight to the same", x, before, 2);
        x.setSteal(0, 20);
        undone("setSteal to the same", x, before, 2);
        x.turn(0);
        undone("turn at rest", x, before, 2);
        x.stop();
        undone("stop at rest", x, before, 2);
        x.place(0, 2);
        undone("place to its own cell", x, before, 2);
    }

    /** More than a whole log is written over, and each sum, count and name changes. */
    private static void undoOfAllThatIsTold() {
        LineBalls x = busy();
        x.setSteal(0, 3);
        x.addBall(19, 60, 3);
        x.pulse(50);
        String before = Due.state(x);
        x.keep(0);
        x.tick(7);
        x.kick(0, 1);
        x.removeBall(1);
        String later = Due.state(x);
        Due.load(x, Texts.TWO);
        x.tick(3);
        x.undo();
        x.undo();
        Due.is("behind undo of load", Due.state(x), later);
        x.undo();
        x.undo();
        x.undo();
        Due.is("behind undo of all", Due.state(x), before);
        x.tick(9);
        x.restore(0);
        Due.is("behind restore", Due.state(x), before);
    }

    /** What was tried ahead of it leaves nothing in what a text makes. */
    private static void loadBehindAsks() {
        LineBalls x = busy();
        x.addBall(19, 60, 3);
        x.pulse(50);
        x.hitsIn(50);
        Due.load(x, Texts.TWO);
        Due.is("load behind asks", Due.state(x), Due.state(Due.loaded(Texts.TWO)));
        x.hitsIn(50);
        Due.load(x, "box 30;post 2 steal 1;");
        x.addBall(0, 0, 1);
        LineBalls y = Due.loaded("box 30;post 2 steal 1;");
        y.addBall(0, 0, 1);
        Due.is("another one behind asks", Due.state(x), Due.state(y));
    }

    // 51
    private static void undoCount() {
        LineBalls x = new LineBalls();
        for (int i = 1; i <= 8; i++) {
            x.stop();
            Due.is("undoCount behind " + i, x.undoCount(), Math.min(i, 6));
        }
        x.undo();
        Due.is("undoCount behind undo", x.undoCount(), 5);
        x.hitIn();
        x.keep(0);
        x.writeLine();
        x.find();
        x.load();
        Due.is("undoCount behind what cannot be undone", x.undoCount(), 5);
    }
}
