/** The boundaries of what would be and what will be: promises 22 to 34. */
public final class EdgeForesightTests {
    private static final Edge.Maker[] ALL = {Edge::fresh, Edge::busy, Edge::full};

    public static void main(String[] args) {
        promise22();
        promise22Sides();
        promise23();
        promise24();
        promise24Saved();
        promise25();
        promise25Bounds();
        promise26();
        promise27();
        promises28And29();
        promises30To32();
        promises28To32AsTheyCome();
        promise33();
        promise34();
        asksChangeNothing();
        Due.finish();
    }

    private static void promise22() {
        tradedOf(Edge::fresh, 0);
        tradedOf(Edge::busy, 3);
        tradedOf(Edge::full, 10);
    }

    private static void tradedOf(Edge.Maker maker, int balls) {
        for (int wrong : new int[] {-1, balls, Texts.LEAST, Texts.MOST}) {
            for (boolean second : new boolean[] {false, true}) {
                Edge.refuses("P22 traded(" + wrong + ", 0) of " + balls, Texts.INDEX, maker, x -> x.traded(wrong, 0, second));
                Edge.refuses("P22 traded(0, " + wrong + ") of " + balls, Texts.INDEX, maker, x -> x.traded(0, wrong, second));
                Edge.refuses("P22 both are " + wrong + " of " + balls, Texts.INDEX, maker, x -> x.traded(wrong, wrong, second));
            }
        }
        for (int a = 0; a < balls; a++) {
            for (int b = 0; b < balls; b++) {
                int one = a;
                int two = b;
                if (a == b) {
                    Edge.refuses("P22 both are " + a + " of " + balls, Texts.ARGUMENT, maker, x -> x.traded(one, two, true));
                } else {
                    Edge.allows("P22 " + a + " and " + b + " of " + balls, maker, x -> x.traded(one, two, true));
                }
            }
        }
    }

    /** The one in the lower cell is the left one, whatever its number is and whatever stands between them. */
    private static void promise22Sides() {
        LineBalls x = Due.loaded("box 200;post 100 steal 50;ball a at 199 speed -20 weight 2;ball b at 0 speed 10 weight 4;"
                + "ball c at 50 speed 10 weight 1;");
        // k is 2 * 30 / (1 + 2) = 20: 10 - 20 * 1 and -20 + 20 * 2.
        Due.is("P22 the left one asked first", x.traded(1, 0, false), -10);
        Due.is("P22 the right one asked second", x.traded(1, 0, true), 20);
        Due.is("P22 the right one asked first", x.traded(0, 1, false), 20);
        Due.is("P22 the left one asked second", x.traded(0, 1, true), -10);
        Due.is("P22 as fast", x.traded(1, 2, false) + "," + x.traded(1, 2, true), "-100,-100");
        Due.is("P22 as fast, the other way", x.traded(2, 1, false) + "," + x.traded(2, 1, true), "-100,-100");
        x.kick(1, 1);
        Due.is("P22 faster by 1", x.traded(1, 2, false) + "," + x.traded(1, 2, true), "10,14");
        x.kick(1, -2);
        Due.is("P22 slower by 1", x.traded(1, 2, false) + "," + x.traded(1, 2, true), "-100,-100");
        x.place(1, 51);
        Due.is("P22 on the other side", x.traded(1, 2, false) + "," + x.traded(1, 2, true), "10,6");
    }

    private static void promise23() {
        Edge.needsBall("P23 bounced(.., 0)", (x, ball) -> x.bounced(ball, 0));
        Edge.range("P23 bounced(0, ..)", Texts.ARGUMENT, Edge::busy, 0, 100, (x, steals) -> x.bounced(0, steals));
        Edge.range("P23 bounced(9, ..)", Texts.ARGUMENT, Edge::full, 0, 100, (x, steals) -> x.bounced(9, steals));
        Edge.refuses("P23 bounced(3, 101)", Texts.INDEX, Edge::busy, x -> x.bounced(3, 101));
        Edge.refuses("P23 bounced(-1, -1)", Texts.INDEX, Edge::full, x -> x.bounced(-1, -1));
        Edge.refuses("P23 bounced(0, 101) of none", Texts.INDEX, Edge::fresh, x -> x.bounced(0, 101));
        LineBalls x = Edge.withBalls(2);
        for (int steals = 0; steals <= 100; steals++) {
            Due.is("P23 at rest", x.bounced(0, steals), 0);
        }
        x.kick(0, 1);
        x.kick(1, -60);
        Due.is("P23 1 and 99 of 100", x.bounced(0, 99), -1);
        Due.is("P23 1 and 100 of 100", x.bounced(0, 100), 0);
        Due.is("P23 -60 and 1 of 100", x.bounced(1, 1), 60);
        Due.is("P23 -60 and 2 of 100", x.bounced(1, 2), 59);
        Due.is("P23 -60 and 0 of 100", x.bounced(1, 0), 60);
        Due.is("P23 -60 and 100 of 100", x.bounced(1, 100), 0);
    }

    private static void promise24() {
        Edge.needsBall("P24 dueIn", (x, ball) -> x.dueIn(ball));
        LineBalls x = Edge.withBalls(1);
        Due.is("P24 at rest", x.dueIn(0), -1);
        for (int pace = 1; pace <= 60; pace++) {
            x.stop();
            x.kick(0, pace);
            Due.is("P24 with " + pace, x.dueIn(0), (int) Math.ceil(60.0 / pace));
            x.turn(0);
            Due.is("P24 with -" + pace, x.dueIn(0), (int) Math.ceil(60.0 / pace));
        }
    }

    /** With each speed and each amount saved: in so many pulses it goes a cell, and not one pulse sooner. */
    private static void promise24Saved() {
        for (int saved = 0; saved <= 59; saved++) {
            LineBalls x = new LineBalls();
            x.addBall(5, saved, 1);
            x.pulse(1);
            x.keep(0);
            for (int pace = 1; pace <= 60; pace++) {
                x.restore(0);
                x.stop();
                Due.is("P24 at rest with " + saved + " saved", x.dueIn(0), -1);
                x.kick(0, pace % 2 == 0 ? pace : -pace);
                int pulses = x.dueIn(0);
                String what = "P24 with " + pace + " and " + saved + " saved";
                if (pulses > 1) {
                    x.pulse(pulses - 1);
                }
                Due.is(what + ", not yet", x.count(3) + "," + x.dueIn(0), "0,1");
                x.pulse(1);
                Due.is(what, x.count(3), 1);
            }
        }
    }

    private static void promise25() {
        Due.is("P25 without balls", new LineBalls().hitIn(), -1);
        Due.is("P25 one ball", Due.loaded("box 10;ball a at 1 speed 60 weight 1;").hitIn(), -1);
        Due.is("P25 all rest", Edge.withBalls(10).hitIn(), -1);
        String beside = "box 10;ball a at 1 speed %d weight 1;ball b at 2 speed %d weight 1;";
        Due.is("P25 in the next pulse", Due.loaded(String.format(beside, 60, 0)).hitIn(), 1);
        Due.is("P25 in the next pulse, from the right", Due.loaded(String.format(beside, 0, -60)).hitIn(), 1);
        Due.is("P25 in the second pulse", Due.loaded(String.format(beside, 59, 0)).hitIn(), 2);
        Due.is("P25 in the 60th pulse", Due.loaded(String.format(beside, 1, 0)).hitIn(), 60);
        Due.is("P25 waiting and bouncing is no hit", Due.loaded("box 10;post 0 steal 100;ball a at 1 speed -60 weight 1;").hitIn(), -1);
    }

    /** A ball with 1 or -1 has so many cells to go to the other one; pulses of the last way have passed. */
    private static LineBalls slow(int free, int passed, boolean right) {
        LineBalls x = new LineBalls();
        Due.load(x, "box 60;");
        x.addBall(right ? 0 : 59, right ? 1 : -1, 1);
        x.addBall(right ? free + 1 : 58 - free, 0, 1);
        if (passed > 0) {
            x.pulse(passed);
        }
        return x;
    }

    private static void promise25Bounds() {
        for (boolean right : new boolean[] {true, false}) {
            foreseen("in 3000", slow(49, 0, right), 3000);
            foreseen("in 2999", slow(49, 1, right), 2999);
            foreseen("in 3001", slow(50, 59, right), -1);
            foreseen("in 3000 of 3060", slow(50, 60, right), 3000);
            foreseen("in 3060", slow(50, 0, right), -1);
            foreseen("in 1", slow(0, 59, right), 1);
            foreseen("in 60", slow(0, 0, right), 60);
        }
    }

    private static void foreseen(String what, LineBalls x, int pulses) {
        Due.is("P25 " + what, x.hitIn(), pulses);
        Due.is("P26 " + what, x.nextHit(false) + "," + x.nextHit(true), pulses < 0 ? "-1,-1" : "0,1");
        Due.is("P27 " + what, x.ballHitIn(0) + "," + x.ballHitIn(1), pulses + "," + pulses);
        if (pulses > 0) {
            int before = x.property(3);
            for (int i = 1; i < pulses; i++) {
                Due.is("P25 not yet, " + what, x.pulse(1), 0);
            }
            Due.is("P25 then, " + what, x.pulse(1), 1);
            Due.is("P17 its time, " + what, x.logged(0, 0), before + pulses - 1);
        }
    }

    private static void promise26() {
        Due.is("P26 without balls", new LineBalls().nextHit(false) + "," + new LineBalls().nextHit(true), "-1,-1");
        Due.is("P26 one ball", Edge.withLog(40).nextHit(false) + "," + Edge.withLog(40).nextHit(true), "-1,-1");
        // In one pulse: 1 bounces, 3 hits 2, 4 hits 3, and last 0 bounces: the first hit is that of 3.
        LineBalls x = Due.loaded("box 20;ball a at 19 speed 60 weight 1;ball b at 0 speed -60 weight 1;"
                + "ball c at 5 speed 0 weight 1;ball d at 6 speed -60 weight 1;ball e at 7 speed -60 weight 1;");
        Due.is("P26 the first of two hits", x.nextHit(false) + "," + x.nextHit(true), "3,2");
        Due.is("P27 all of that pulse", x.ballHitIn(2) + "," + x.ballHitIn(3) + "," + x.ballHitIn(4), "1,1,1");
        Due.is("P25 P30 two hits in it", x.hitIn() + "," + x.pulse(1), "1,2");
        Due.is("P54 as it came", Due.log(x), "1|/0 3x2/60 4x3/60 0|/0");
        // Whatever hits there were, and however full the log is, the next one counts.
        for (Edge.Maker maker : new Edge.Maker[] {Edge::busy, Edge::full, () -> Due.loaded(Texts.ROW)}) {
            LineBalls y = maker.make();
            for (int i = 0; i < 20; i++) {
                int pulses = y.hitIn();
                int mover = y.nextHit(false);
                int other = y.nextHit(true);
                if (pulses < 0) {
                    Due.is("P26 none", mover + "," + other, "-1,-1");
                    break;
                }
                int hits = 0;
                for (int pulse = 1; pulse < pulses; pulse++) {
                    hits += y.pulse(1);
                }
                Due.is("P25 none sooner", hits, 0);
                Due.is("P25 it comes", y.pulse(1) > 0 ? 1 : 0, 1);
                Due.is("P26 as it came", mover + "," + other, firstHit(y));
            }
        }
    }

    /** Mover and other of the earliest hit of two balls in the last pulse. */
    private static String firstHit(LineBalls x) {
        String first = "";
        for (int index = 0; index < x.property(4) && x.logged(index, 0) == x.property(3) - 1; index++) {
            if (x.logged(index, 2) >= 0) {
                first = x.logged(index, 1) + "," + x.logged(index, 2);
            }
        }
        return first;
    }

    private static void promise27() {
        Edge.needsBall("P27 ballHitIn", (x, ball) -> x.ballHitIn(ball));
        LineBalls x = Due.loaded("box 80;ball a at 0 speed 60 weight 1;ball b at 1 speed 0 weight 1;"
                + "ball c at 31 speed 0 weight 1;post 40 steal 0;ball d at 41 speed 60 weight 1;ball e at 79 speed 0 weight 1;");
        Due.is("P27 in its own turn", x.ballHitIn(0), 1);
        Due.is("P27 in the other's turn", x.ballHitIn(1), 1);
        // b has 29 cells to go from the second pulse on.
        Due.is("P27 later than others", x.ballHitIn(2), 31);
        Due.is("P27 d has 37 cells to go", x.ballHitIn(3) + "," + x.ballHitIn(4), "38,38");
        x.pulse(1);
        Due.is("P27 hits ahead of it do not count", x.ballHitIn(1), 30);
        // c bounces at the post and comes back to b in the 49th pulse of all; b has 29 cells to go to a then.
        Due.is("P27 nor for the other one", x.ballHitIn(0), 49 + 29 + 1 - 1);
        x.place(4, 20);
        Due.is("P27 never without another one", x.ballHitIn(3), -1);
    }

    private static void promises28And29() {
        Edge.needsBall("P28 cellIn(.., 0)", (x, ball) -> x.cellIn(ball, 0));
        Edge.needsBall("P28 cellIn(.., 50)", (x, ball) -> x.cellIn(ball, 50));
        Edge.needsBall("P29 speedIn(.., 0)", (x, ball) -> x.speedIn(ball, 0));
        Edge.needsBall("P29 speedIn(.., 50)", (x, ball) -> x.speedIn(ball, 50));
        for (Edge.Maker maker : new Edge.Maker[] {Edge::busy, Edge::full}) {
            Edge.range("P28 cellIn(0, ..)", Texts.ARGUMENT, maker, 0, 50, (x, ticks) -> x.cellIn(0, ticks));
            Edge.range("P28 cellIn(2, ..)", Texts.ARGUMENT, maker, 0, 50, (x, ticks) -> x.cellIn(2, ticks));
            Edge.range("P29 speedIn(0, ..)", Texts.ARGUMENT, maker, 0, 50, (x, ticks) -> x.speedIn(0, ticks));
            Edge.range("P29 speedIn(2, ..)", Texts.ARGUMENT, maker, 0, 50, (x, ticks) -> x.speedIn(2, ticks));
            Edge.refuses("P28 cellIn(-1, 51)", Texts.INDEX, maker, x -> x.cellIn(-1, 51));
            Edge.refuses("P28 cellIn(10, -1)", Texts.INDEX, maker, x -> x.cellIn(10, -1));
            Edge.refuses("P29 speedIn(-1, 51)", Texts.INDEX, maker, x -> x.speedIn(-1, 51));
            Edge.refuses("P29 speedIn(10, -1)", Texts.INDEX, maker, x -> x.speedIn(10, -1));
        }
        Edge.refuses("P28 cellIn(0, 51) of none", Texts.INDEX, Edge::fresh, x -> x.cellIn(0, 51));
        Edge.refuses("P29 speedIn(0, 51) of none", Texts.INDEX, Edge::fresh, x -> x.speedIn(0, 51));
    }

    private static void promises30To32() {
        for (Edge.Maker maker : ALL) {
            Edge.range("P30 hitsIn", Texts.ARGUMENT, maker, 0, 50, (x, ticks) -> x.hitsIn(ticks));
            Edge.range("P31 bouncesIn", Texts.ARGUMENT, maker, 0, 50, (x, ticks) -> x.bouncesIn(ticks));
            Edge.range("P32 energyIn", Texts.ARGUMENT, maker, 0, 50, (x, ticks) -> x.energyIn(ticks));
            LineBalls x = maker.make();
            Due.is("P30 P31 in no ticks", x.hitsIn(0) + "," + x.bouncesIn(0), "0,0");
            Due.is("P32 in no ticks", x.energyIn(0), x.account(1));
        }
        LineBalls y = new LineBalls();
        Due.is("P30 P31 P32 without balls", y.hitsIn(50) + "," + y.bouncesIn(50) + "," + y.energyIn(50), "0,0,0");
    }

    private static void promises28To32AsTheyCome() {
        for (Edge.Maker maker : new Edge.Maker[] {Edge::busy, Edge::full, () -> Due.loaded(Texts.ROW)}) {
            for (int ticks : new int[] {0, 1, 49, 50}) {
                LineBalls x = maker.make();
                LineBalls y = maker.make();
                int hits = ticks == 0 ? 0 : y.tick(ticks);
                for (int ball = 0; ball < x.property(1); ball++) {
                    Due.is("P28 ball " + ball + " in " + ticks, x.cellIn(ball, ticks), y.ball(ball, 0));
                    Due.is("P29 ball " + ball + " in " + ticks, x.speedIn(ball, ticks), y.ball(ball, 1));
                }
                Due.is("P30 in " + ticks, x.hitsIn(ticks), hits);
                Due.is("P31 in " + ticks, x.bouncesIn(ticks), y.count(1) - x.count(1));
                Due.is("P32 in " + ticks, x.energyIn(ticks), y.account(1));
                Due.is("P34 as it is, in " + ticks, x.energyIf(true, x.wall(true, 0), ticks), y.account(1));
            }
        }
    }

    /** With 1 a ball comes to a wall that steals all in as many ticks as it has cells to go, and one more. */
    private static void promise33() {
        Due.is("P33 without balls", new LineBalls().calmIn(), 0);
        Due.is("P33 all rest", Edge.withBalls(10).calmIn(), 0);
        for (int ticks : new int[] {1, 2, 25, 49, 50, 51, 52, 60}) {
            LineBalls x = Due.loaded("box 60 steal 0 100;ball a at " + (60 - ticks) + " speed 1 weight 1;");
            Due.is("P33 in " + ticks, x.calmIn(), ticks <= 50 ? ticks : -1);
            LineBalls y = Due.loaded("box 60 steal 100 0;ball a at " + (ticks - 1) + " speed -1 weight 1;");
            Due.is("P33 to the left in " + ticks, y.calmIn(), ticks <= 50 ? ticks : -1);
            y.pulse(59);
            Due.is("P33 a pulse less than a tick later", y.calmIn(), ticks <= 50 ? ticks : -1);
            y.pulse(1);
            Due.is("P33 a tick later", y.calmIn(), ticks <= 51 ? ticks - 1 : -1);
        }
        Due.is("P33 never", Due.loaded("box 10;ball a at 5 speed 60 weight 1;").calmIn(), -1);
        Due.is("P33 a push of 0 is not calm", Due.loaded("box 10;post 5 steal 0;ball a at 1 speed 60 weight 1;"
                + "ball b at 8 speed -60 weight 1;").calmIn(), -1);
        LineBalls z = Edge.full();
        z.stop();
        Due.is("P33 behind stop", z.calmIn(), 0);
    }

    private static void promise34() {
        for (Edge.Maker maker : ALL) {
            Edge.range("P34 energyIf(true, .., 50)", Texts.ARGUMENT, maker, 0, 100, (x, steals) -> x.energyIf(true, steals, 50));
            Edge.range("P34 energyIf(false, .., 0)", Texts.ARGUMENT, maker, 0, 100, (x, steals) -> x.energyIf(false, steals, 0));
            Edge.range("P34 energyIf(false, 100, ..)", Texts.ARGUMENT, maker, 0, 50, (x, ticks) -> x.energyIf(false, 100, ticks));
            Edge.range("P34 energyIf(true, 0, ..)", Texts.ARGUMENT, maker, 0, 50, (x, ticks) -> x.energyIf(true, 0, ticks));
            Edge.refuses("P34 energyIf(true, 101, 51)", Texts.ARGUMENT, maker, x -> x.energyIf(true, 101, 51));
        }
        for (int steals : new int[] {0, 1, 50, 99, 100}) {
            for (int ticks : new int[] {0, 1, 50}) {
                for (boolean right : new boolean[] {true, false}) {
                    LineBalls x = Edge.busy();
                    LineBalls y = Edge.busy();
                    y.setSteal(right ? -2 : -1, steals);
                    Due.is("P34 " + right + ", " + steals + ", " + ticks, x.energyIf(right, steals, ticks), y.energyIn(ticks));
                }
            }
        }
        LineBalls z = Due.loaded("box 10 steal 100 0;ball a at 0 speed -60 weight 20;");
        Due.is("P34 the left wall alone", z.energyIf(false, 0, 50), 72000);
        Due.is("P34 the right wall alone", z.energyIf(true, 100, 50), 0);
    }

    private static void asksChangeNothing() {
        for (Edge.Maker maker : new Edge.Maker[] {Edge::busy, Edge::full}) {
            Edge.asks("P22 traded(0, 1, true)", maker, x -> x.traded(0, 1, true));
            Edge.asks("P23 bounced(0, 100)", maker, x -> x.bounced(0, 100));
            Edge.asks("P24 dueIn(0)", maker, x -> x.dueIn(0));
            Edge.asks("P27 ballHitIn(0)", maker, x -> x.ballHitIn(0));
            Edge.asks("P28 cellIn(0, 50)", maker, x -> x.cellIn(0, 50));
            Edge.asks("P29 speedIn(0, 50)", maker, x -> x.speedIn(0, 50));
        }
        for (Edge.Maker maker : ALL) {
            Edge.asks("P25 hitIn()", maker, x -> x.hitIn());
            Edge.asks("P26 nextHit(false)", maker, x -> x.nextHit(false));
            Edge.asks("P26 nextHit(true)", maker, x -> x.nextHit(true));
            Edge.asks("P30 hitsIn(50)", maker, x -> x.hitsIn(50));
            Edge.asks("P31 bouncesIn(50)", maker, x -> x.bouncesIn(50));
            Edge.asks("P32 energyIn(50)", maker, x -> x.energyIn(50));
            Edge.asks("P33 calmIn()", maker, x -> x.calmIn());
            Edge.asks("P34 energyIf(true, 100, 50)", maker, x -> x.energyIf(true, 100, 50));
            Edge.asks("P34 energyIf(false, 100, 50)", maker, x -> x.energyIf(false, 100, 50));
        }
    }
}
