/** Promises 8 to 21 and 35 to 37: what is. */
public final class StateTests {
    public static void main(String[] args) {
        property();
        propertyOfTheLog();
        ball();
        ballAfterWaits();
        at();
        post();
        wall();
        placed();
        neighbour();
        room();
        hits();
        hitsOfRenumberedBalls();
        logged();
        loggedBehindRemovals();
        account();
        count();
        fastest();
        going();
        meanSpeed();
        share();
        middle();
        fullLine();
        Due.finish();
    }

    // 8
    private static void property() {
        LineBalls x = Due.loaded("box 200 steal 0 0;" + Texts.THREE.substring(7));
        int[] due = {200, 3, 2, 0, 0, 3, 24};
        for (int what = 0; what <= 6; what++) {
            Due.is("property " + what, x.property(what), due[what]);
        }
        x.kick(1, 60);
        x.pulse(3);
        Due.is("time", x.property(3), 3);
        Due.is("two bounces are logged", x.property(4), 2);
        Due.is("two rest", x.property(5), 2);
        x.removeBall(0);
        Due.is("one rests", x.property(5), 1);
        Due.is("balls", x.property(1), 2);
        Due.is("weights", x.property(6), 23);
        Due.refuses("property(-1)", x, Texts.ARGUMENT, () -> x.property(-1));
        Due.refuses("property(7)", x, Texts.ARGUMENT, () -> x.property(7));
        Due.refuses("property(most)", x, Texts.ARGUMENT, () -> x.property(Texts.MOST));
    }

    private static void propertyOfTheLog() {
        LineBalls x = new LineBalls();
        x.addBall(0, -60, 1);
        x.addBall(9, 60, 1);
        x.pulse(1);
        Due.is("two walls at once", x.property(4), 2);
        // Each of them comes to the middle, they hit, and bounce again: 3 entries in 9 pulses and one.
        LineBalls y = Due.loaded("box 10;post 1 steal 0;post 3 steal 0;ball a at 2 speed 60 weight 1;");
        y.pulse(39);
        Due.is("39 entries", y.property(4), 39);
        y.pulse(1);
        Due.is("40 entries", y.property(4), 40);
        y.pulse(1);
        Due.is("40 entries at most", y.property(4), 40);
        Due.is("the latest one", y.logged(0, 0), 40);
        Due.is("the earliest one kept", y.logged(39, 0), 1);
        Due.refuses("logged(40, 0)", y, Texts.INDEX, () -> y.logged(40, 0));
    }

    // 9
    private static void ball() {
        LineBalls x = Due.loaded(Texts.TWO);
        x.pulse(7);
        int[] first = {0, 30, 2, 30, 4, 1, 1, 0};
        int[] second = {6, 30, 4, 30, 3, 1, 0, 0};
        for (int what = 0; what <= 7; what++) {
            Due.is("ball 0, " + what, x.ball(0, what), first[what]);
            Due.is("ball 1, " + what, x.ball(1, what), second[what]);
        }
        Due.refuses("ball(2, 0)", x, Texts.INDEX, () -> x.ball(2, 0));
        Due.refuses("ball(-1, 9)", x, Texts.INDEX, () -> x.ball(-1, 9));
        Due.refuses("ball(most, 0)", x, Texts.INDEX, () -> x.ball(Texts.MOST, 0));
        Due.refuses("ball(0, 8)", x, Texts.ARGUMENT, () -> x.ball(0, 8));
        Due.refuses("ball(0, -1)", x, Texts.ARGUMENT, () -> x.ball(0, -1));
    }

    private static void ballAfterWaits() {
        LineBalls x = Due.loaded("box 10;ball a at 1 speed 60 weight 1;ball b at 2 speed 0 weight 1;");
        x.kick(0, -30);
        x.pulse(1);
        x.kick(1, 30);
        x.pulse(1);
        Due.is("0 is due, 1 as fast and not due", Due.balls(x), "0@1:30 1@2:30");
        Due.is("waits of 0", x.ball(0, 7), 1);
        Due.is("waits of 1", x.ball(1, 7), 0);
        Due.is("saved less 60 for it", x.ball(0, 3), 0);
        Due.is("all waits", x.count(2), 1);
        Due.is("no hit", x.ball(0, 5) + x.ball(1, 5) + x.count(0) + x.property(4), 0);
    }

    // 10
    private static void at() {
        LineBalls x = Due.loaded(Texts.THREE);
        int[] due = {-1, -1, 0, -1, -1, 1, -1, 2, -1, -1};
        for (int cell = 0; cell < 10; cell++) {
            Due.is("at " + cell, x.at(cell), due[cell]);
        }
        Due.refuses("at(-1)", x, Texts.INDEX, () -> x.at(-1));
        Due.refuses("at(10)", x, Texts.INDEX, () -> x.at(10));
        Due.load(x, "box 200;");
        Due.is("at 199", x.at(199), -1);
        Due.refuses("at(200)", x, Texts.INDEX, () -> x.at(200));
    }

    // 11: 1 bounces at the right post (60 * 30 / 100 is 18 less), two pulses later at the left one
    private static void post() {
        LineBalls x = Due.loaded(Texts.THREE);
        x.kick(1, 60);
        x.pulse(1);
        Due.is("bounces at the left post", x.post(0, 2), 0);
        Due.is("bounces at the right post", x.post(1, 2), 1);
        x.pulse(2);
        int[][] due = {{4, 20, 1}, {6, 30, 1}};
        for (int post = 0; post < 2; post++) {
            for (int what = 0; what <= 2; what++) {
                Due.is("post " + post + ", " + what, x.post(post, what), due[post][what]);
            }
        }
        Due.is("speed behind both", x.ball(1, 1), 34);
        Due.refuses("post(2, 0)", x, Texts.INDEX, () -> x.post(2, 0));
        Due.refuses("post(-1, 0)", x, Texts.INDEX, () -> x.post(-1, 0));
        Due.refuses("post(-2, 3)", x, Texts.INDEX, () -> x.post(-2, 3));
        Due.refuses("post(most, 0)", x, Texts.INDEX, () -> x.post(Texts.MOST, 0));
        Due.refuses("post(0, 3)", x, Texts.ARGUMENT, () -> x.post(0, 3));
        Due.refuses("post(0, -1)", x, Texts.ARGUMENT, () -> x.post(0, -1));
        Due.refuses("post(0, 0) without posts", new LineBalls(), Texts.INDEX, () -> new LineBalls().post(0, 0));
    }

    // 12
    private static void wall() {
        LineBalls x = Due.loaded("box 10 steal 3 4;ball a at 9 speed 60 weight 1;ball b at 0 speed -20 weight 1;");
        x.pulse(1);
        Due.is("left wall's bounces", x.wall(false, 1), 0);
        Due.is("right wall's bounces", x.wall(true, 1), 1);
        x.pulse(2);
        Due.is("left wall steals", x.wall(false, 0), 3);
        Due.is("right wall steals", x.wall(true, 0), 4);
        Due.is("left wall's bounces behind 3", x.wall(false, 1), 1);
        Due.is("right wall's bounces behind 3", x.wall(true, 1), 1);
        Due.is("what they stole", Due.balls(x), "1@0:20 0@8:-58");
        Due.refuses("wall(false, -1)", x, Texts.ARGUMENT, () -> x.wall(false, -1));
        Due.refuses("wall(true, 2)", x, Texts.ARGUMENT, () -> x.wall(true, 2));
    }

    // 13
    private static void placed() {
        LineBalls x = Due.loaded("box 10;ball a at 7 speed 0 weight 1;ball b at 0 speed 0 weight 1;"
                + "ball c at 5 speed 0 weight 1;");
        Due.is("placed 0", x.placed(0), 1);
        Due.is("placed 1", x.placed(1), 2);
        Due.is("placed 2", x.placed(2), 0);
        x.place(1, 9);
        Due.is("placed 0 behind place", x.placed(0), 2);
        Due.is("placed 2 behind place", x.placed(2), 1);
        Due.refuses("placed(3)", x, Texts.NO_ELEMENT, () -> x.placed(3));
        Due.refuses("placed(-1)", x, Texts.NO_ELEMENT, () -> x.placed(-1));
        x.removeBall(2);
        Due.is("placed 0 behind removeBall", x.placed(0), 0);
        Due.is("placed 1 behind removeBall", x.placed(1), 1);
        Due.refuses("placed(2)", x, Texts.NO_ELEMENT, () -> x.placed(2));
    }

    // 14
    private static void neighbour() {
        LineBalls x = Due.loaded(Texts.THREE);
        Due.is("neighbour behind a post", x.neighbour(0, true), -1);
        Due.is("neighbour behind a post on the left", x.neighbour(1, false), -1);
        Due.is("neighbour at the wall", x.neighbour(0, false), -1);
        Due.is("neighbour at the right wall", x.neighbour(2, true), -1);
        x.addBall(9, 0, 1);
        x.addBall(8, 0, 1);
        Due.is("nearest on the right", x.neighbour(2, true), 4);
        Due.is("nearest on the left", x.neighbour(3, false), 4);
        x.removeBall(4);
        Due.is("further on the right", x.neighbour(2, true), 3);
        Due.is("further on the left", x.neighbour(3, false), 2);
        Due.refuses("neighbour(4)", x, Texts.INDEX, () -> x.neighbour(4, true));
        Due.refuses("neighbour(-1)", x, Texts.INDEX, () -> x.neighbour(-1, true));
    }

    // 15
    private static void room() {
        LineBalls x = Due.loaded(Texts.THREE);
        Due.is("room to the wall", x.room(0, false), 2);
        Due.is("room to a post", x.room(0, true), 1);
        Due.is("no room", x.room(1, true), 0);
        Due.is("no room on the left", x.room(1, false), 0);
        Due.is("room to the right wall", x.room(2, true), 2);
        x.addBall(9, 0, 1);
        Due.is("room to a ball", x.room(2, true), 1);
        Due.is("room to a ball on the left", x.room(3, false), 1);
        Due.is("room of none", x.room(3, true), 0);
        Due.is("room of a long line", Due.loaded("box 200;ball a at 0 speed 0 weight 1;").room(0, true), 199);
        Due.refuses("room(4)", x, Texts.INDEX, () -> x.room(4, true));
        Due.refuses("room(-1)", x, Texts.INDEX, () -> x.room(-1, false));
    }

    // 16
    private static void hits() {
        LineBalls x = Due.loaded(Texts.ROW);
        x.pulse(1);
        int[][] due = {{0, 1, 0}, {1, 0, 1}, {0, 1, 0}};
        for (int a = 0; a < 3; a++) {
            for (int b = 0; b < 3; b++) {
                Due.is("hits of " + a + " with " + b, x.hits(a, b), due[a][b]);
            }
        }
        Due.refuses("hits(3, 0)", x, Texts.INDEX, () -> x.hits(3, 0));
        Due.refuses("hits(0, 3)", x, Texts.INDEX, () -> x.hits(0, 3));
        Due.refuses("hits(-1, 0)", x, Texts.INDEX, () -> x.hits(-1, 0));
        Due.refuses("hits(0, -1)", x, Texts.INDEX, () -> x.hits(0, -1));
        x.removeBall(0);
        Due.is("hits move with the numbers", x.hits(0, 1), 1);
        Due.is("hits with itself", x.hits(1, 1), 0);
        x.addBall(0, 0, 1);
        Due.is("a new one has none", x.hits(2, 1) + x.hits(2, 0) + x.hits(1, 2) + x.hits(0, 2), 0);
        x.removeBall(2);
        x.addBall(0, 0, 1);
        Due.is("nor has another one", x.hits(2, 1) + x.hits(2, 0) + x.hits(1, 2) + x.hits(0, 2), 0);
    }

    private static void hitsOfRenumberedBalls() {
        // 1 with 2 alone.
        LineBalls x = Due.loaded("box 30;ball a at 20 speed 0 weight 1;ball b at 4 speed 60 weight 1;"
                + "ball c at 5 speed 0 weight 1;ball d at 29 speed 0 weight 1;");
        x.pulse(1);
        x.removeBall(0);
        int[][] due = {{0, 1, 0}, {1, 0, 0}, {0, 0, 0}};
        for (int a = 0; a < 3; a++) {
            for (int b = 0; b < 3; b++) {
                Due.is("hits of " + a + " with " + b + " behind removeBall", x.hits(a, b), due[a][b]);
            }
        }
        x.removeBall(1);
        Due.is("its hits are gone with it", x.hits(0, 1) + x.hits(1, 0), 0);
        LineBalls y = new LineBalls();
        for (int i = 0; i < 10; i++) {
            y.addBall(i, i == 8 ? 60 : 0, 1);
        }
        y.pulse(1);
        Due.is("hits of 8 and 9", y.hits(8, 9), 1);
        y.removeBall(0);
        y.addBall(0, 0, 1);
        Due.is("they are 7 and 8", y.hits(7, 8), 1);
        for (int i = 0; i < 10; i++) {
            Due.is("hits of the new 9 with " + i, y.hits(9, i) + y.hits(i, 9), 0);
        }
    }

    // 17
    private static void logged() {
        LineBalls x = Due.loaded(Texts.TWO);
        Due.refuses("logged(0, 0) of an empty log", x, Texts.INDEX, () -> x.logged(0, 0));
        x.pulse(6);
        int[][] due = {{5, 0, -1, 30}, {1, 0, 1, 60}};
        for (int index = 0; index < 2; index++) {
            for (int what = 0; what <= 3; what++) {
                Due.is("logged " + index + ", " + what, x.logged(index, what), due[index][what]);
            }
        }
        Due.refuses("logged(2, 4)", x, Texts.INDEX, () -> x.logged(2, 4));
        Due.refuses("logged(-1, 0)", x, Texts.INDEX, () -> x.logged(-1, 0));
        Due.refuses("logged(most, 0)", x, Texts.INDEX, () -> x.logged(Texts.MOST, 0));
        Due.refuses("logged(0, 4)", x, Texts.ARGUMENT, () -> x.logged(0, 4));
        Due.refuses("logged(0, -1)", x, Texts.ARGUMENT, () -> x.logged(0, -1));
    }

    private static void loggedBehindRemovals() {
        LineBalls x = Due.loaded(Texts.ROW);
        x.pulse(1);
        Due.is("mover", x.logged(1, 1), 1);
        Due.is("other", x.logged(1, 2), 0);
        x.removeBall(0);
        Due.is("mover renumbered", x.logged(1, 1), 0);
        Due.is("other removed", x.logged(1, 2), -1);
        Due.is("the later mover renumbered", x.logged(0, 1), 1);
        Due.is("the later other renumbered", x.logged(0, 2), 0);
        x.addBall(0, 0, 1);
        x.removeBall(1);
        Due.is("mover removed", x.logged(0, 1), -1);
        Due.is("other stays", x.logged(0, 2), 0);
        Due.is("k stays", x.logged(0, 3), 120);
        Due.is("a new one is not in the log", x.logged(1, 2), -1);
        x.undo();
        x.undo();
        x.undo();
        Due.is("undone", Due.log(x), "1x0/120 2x1/120");
    }

    // 18; what each change pushes is in ChangeTests
    private static void account() {
        LineBalls x = Due.loaded(Texts.TWO);
        long[][] due = {{0, 10800, 0, 0, 0}, {0, 10800, 0, 240, 0}, {180, 5400, -180, 240, 0}};
        for (int step = 0; step < 3; step++) {
            for (int what = 0; what <= 4; what++) {
                Due.is("account " + what + " at " + x.property(3), x.account(what), due[step][what]);
            }
            x.pulse(step == 0 ? 2 : 4);
        }
        Due.refuses("account(-1)", x, Texts.ARGUMENT, () -> x.account(-1));
        Due.refuses("account(5)", x, Texts.ARGUMENT, () -> x.account(5));
        LineBalls z = Due.loaded(Texts.ROW);
        z.pulse(1);
        Due.is("traded in two hits", z.account(3), 240);
        LineBalls y = Due.loaded("box 10 steal 0 50;ball a at 9 speed 60 weight 3;");
        y.pulse(1);
        Due.is("what the right wall got", y.account(2), 270);
        Due.load(y, "box 10;");
        Due.is("since load", y.account(2), 0);
    }

    // 19
    private static void count() {
        LineBalls x = Due.loaded(Texts.TWO);
        x.pulse(6);
        int[] due = {1, 1, 0, 7};
        for (int what = 0; what <= 3; what++) {
            Due.is("count " + what, x.count(what), due[what]);
        }
        x.place(0, 1);
        x.removeBall(1);
        Due.is("removed ones stay counted", x.count(0) + x.count(3), 8);
        Due.refuses("count(-1)", x, Texts.ARGUMENT, () -> x.count(-1));
        Due.refuses("count(4)", x, Texts.ARGUMENT, () -> x.count(4));
        Due.load(x, "box 10;");
        Due.is("since load", x.count(0) + x.count(1) + x.count(3), 0);
    }

    // 20
    private static void fastest() {
        LineBalls x = new LineBalls();
        Due.is("fastest of none", x.fastest(), -1);
        x.addBall(5, 0, 1);
        Due.is("fastest of one that rests", x.fastest(), 0);
        x.addBall(0, -5, 1);
        x.addBall(9, 5, 1);
        Due.is("the lowest of two", x.fastest(), 1);
        x.kick(2, 1);
        Due.is("the faster one", x.fastest(), 2);
        x.kick(1, -2);
        Due.is("the faster one to the left", x.fastest(), 1);
    }

    // 21
    private static void going() {
        LineBalls x = new LineBalls();
        Due.is("going of none", x.going(true), 0);
        x.addBall(5, 0, 1);
        x.addBall(0, -5, 1);
        x.addBall(9, 5, 1);
        x.addBall(8, 1, 1);
        Due.is("going right", x.going(true), 12);
        Due.is("going left", x.going(false), 2);
        x.kick(0, -1);
        Due.is("0 going left", x.going(false), 3);
        Due.is("0 not going right", x.going(true), 12);
    }

    // 35
    private static void meanSpeed() {
        Due.is("mean of none", new LineBalls().meanSpeed(), 0.0);
        LineBalls x = Due.loaded(Texts.TWO);
        Due.is("mean", x.meanSpeed(), 45.0);
        x.kick(0, -59);
        x.kick(1, 29);
        x.addBall(0, 0, 20);
        Due.is("mean of thirds", x.meanSpeed(), 2.0 / 3.0);
    }

    // 36
    private static void share() {
        LineBalls x = Due.loaded(Texts.TWO);
        Due.is("share of 0", x.share(0), 7200.0f / 10800.0f);
        Due.is("share of 1", x.share(1), 3600.0f / 10800.0f);
        Due.refuses("share(2)", x, Texts.INDEX, () -> x.share(2));
        Due.refuses("share(-1)", x, Texts.INDEX, () -> x.share(-1));
        x.stop();
        Due.is("share of nothing", x.share(0), 0.0f);
        Due.refuses("share(2) of nothing", x, Texts.INDEX, () -> x.share(2));
    }

    // 37
    private static void middle() {
        LineBalls x = new LineBalls();
        Due.is("middle of none", x.middle(), -1.0);
        x.addBall(0, 0, 1);
        Due.is("middle of one in cell 0", x.middle(), 0.0);
        x.addBall(1, 9, 2);
        Due.is("middle of two", x.middle(), 2.0 / 3.0);
        Due.is("middle of TWO", Due.loaded(Texts.TWO).middle(), 4.0);
    }

    /** Ten balls, 0 in the highest cell, each as fast as its number and 1. */
    private static void fullLine() {
        LineBalls x = new LineBalls();
        for (int i = 0; i < 10; i++) {
            x.addBall(9 - i, i + 1, 1);
        }
        Due.is("line", Due.line(x), "9876543210");
        Due.is("placed 9", x.placed(9), 0);
        Due.is("fastest", x.fastest(), 9);
        Due.is("going right", x.going(true), 1023);
        Due.is("going left", x.going(false), 0);
        Due.is("meanSpeed", x.meanSpeed(), 5.5);
        Due.is("middle", x.middle(), 4.5);
        Due.is("energy", x.account(1), 385);
        Due.is("push", x.account(0), 55);
        Due.is("weights", x.property(6), 10);
        Due.is("neighbour", x.neighbour(9, true), 8);
        Due.is("no room", x.room(9, true), 0);
        // 9 is due in the sixth pulse, when 8 has saved 54 and is slower.
        Due.is("hitIn", x.hitIn(), 6);
        Due.is("a hit", x.pulse(6), 1);
        Due.is("its log", Due.log(x), "9x8/1");
        Due.is("stop", x.stop(), 10);
        Due.is("calm", x.calmIn(), 0);
        x.removeBall(9);
        Due.is("line behind removeBall", Due.line(x), ".876543210");
    }
}
