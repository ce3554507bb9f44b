/** Promises 22 to 34: what would be, and what will be. */
public final class ForesightTests {
    public static void main(String[] args) {
        traded();
        bounced();
        dueIn();
        hitIn();
        hitInBounds();
        nextHit();
        ballHitIn();
        oneBallForeseen();
        stealingForeseen();
        refusals();
        foreseenAsItComes();
        calmIn();
        energyIf();
        asksChangeNothing();
        Due.finish();
    }

    // 22; more speeds are in PulseTests
    private static void traded() {
        LineBalls x = Due.loaded("box 20;post 9 steal 0;ball a at 15 speed -30 weight 4;ball b at 2 speed 60 weight 2;"
                + "ball c at 4 speed 60 weight 1;ball d at 3 speed 60 weight 1;");
        Due.is("wherever they are", x.traded(1, 0, false), -60);
        Due.is("the second one", x.traded(1, 0, true), 30);
        Due.is("the first one is the right one", x.traded(0, 1, false), 30);
        Due.is("the second one is the left one", x.traded(0, 1, true), -60);
        Due.is("not greater", x.traded(2, 3, false), LineBalls.NO_SPEED);
        Due.is("not greater either", x.traded(3, 2, true), LineBalls.NO_SPEED);
        x.kick(2, -1);
        Due.is("greater by 1", x.traded(2, 3, false), 60);
        x.kick(3, -2);
        Due.is("less by 1", x.traded(2, 3, false), LineBalls.NO_SPEED);
        Due.refuses("traded(4, 4)", x, Texts.INDEX, () -> x.traded(4, 4, true));
        Due.refuses("traded(0, 4)", x, Texts.INDEX, () -> x.traded(0, 4, true));
        Due.refuses("traded(-1, 0)", x, Texts.INDEX, () -> x.traded(-1, 0, true));
        Due.refuses("traded(0, -1)", x, Texts.INDEX, () -> x.traded(0, -1, false));
        Due.refuses("traded(3, 3)", x, Texts.ARGUMENT, () -> x.traded(3, 3, false));
    }

    // 23
    private static void bounced() {
        LineBalls x = Due.loaded("box 10;ball a at 1 speed -59 weight 4;ball b at 2 speed 60 weight 2;ball c at 3 speed 0 weight 1;");
        Due.is("nothing stolen", x.bounced(0, 0), 59);
        Due.is("rounded down", x.bounced(0, 33), 40);
        Due.is("to the left", x.bounced(1, 50), -30);
        Due.is("all stolen", x.bounced(1, 100), 0);
        Due.is("99 of 60", x.bounced(1, 99), -1);
        Due.is("at rest", x.bounced(2, 50), 0);
        Due.refuses("bounced(3, 0)", x, Texts.INDEX, () -> x.bounced(3, 0));
        Due.refuses("bounced(-1, 101)", x, Texts.INDEX, () -> x.bounced(-1, 101));
        Due.refuses("bounced(0, 101)", x, Texts.ARGUMENT, () -> x.bounced(0, 101));
        Due.refuses("bounced(0, -1)", x, Texts.ARGUMENT, () -> x.bounced(0, -1));
    }

    // 24
    private static void dueIn() {
        int[][] due = {{60, 1}, {-60, 1}, {59, 2}, {31, 2}, {30, 2}, {29, 3}, {20, 3}, {-7, 9}, {1, 60}, {-1, 60}, {0, -1}};
        for (int[] one : due) {
            LineBalls x = new LineBalls();
            x.addBall(5, one[0], 1);
            Due.is("dueIn with " + one[0], x.dueIn(0), one[1]);
        }
        LineBalls x = new LineBalls();
        x.addBall(5, 59, 1);
        x.pulse(1);
        Due.is("with 59 saved", x.dueIn(0), 1);
        x.kick(0, -58);
        Due.is("with 59 saved and 1", x.dueIn(0), 1);
        x.kick(0, -1);
        Due.is("with 59 saved at rest", x.dueIn(0), -1);
        x.kick(0, 20);
        x.pulse(1);
        Due.is("with 19 saved", x.dueIn(0), 3);
        Due.refuses("dueIn(1)", x, Texts.INDEX, () -> x.dueIn(1));
        Due.refuses("dueIn(-1)", x, Texts.INDEX, () -> x.dueIn(-1));
    }

    // 25
    private static void hitIn() {
        Due.is("hitIn without balls", new LineBalls().hitIn(), -1);
        LineBalls x = Due.loaded(Texts.TWO);
        Due.is("hitIn", x.hitIn(), 2);
        x.pulse(1);
        Due.is("hitIn 1", x.hitIn(), 1);
        x.pulse(1);
        LineBalls y = Due.loaded(Texts.TWO);
        y.pulse(2);
        int pulses = 0;
        while (y.pulse(1) == 0) {
            pulses++;
        }
        Due.is("the one behind it", x.hitIn(), pulses + 1);
        Due.is("bounces are no hits", Due.loaded("box 10;ball a at 0 speed 60 weight 1;").hitIn(), -1);
        Due.is("a hit with k 0 is one", Due.loaded(
                "box 10;ball a at 4 speed 60 weight 20;ball b at 5 speed 59 weight 1;").hitIn(), 1);
    }

    /** A ball with the speed 1 goes a cell in 60 pulses, and hits in the 60 behind the last free one. */
    private static void hitInBounds() {
        LineBalls x = Due.loaded("box 60;ball a at 0 speed 1 weight 1;ball b at 50 speed 0 weight 1;");
        Due.is("hitIn 3000", x.hitIn(), 3000);
        Due.is("ballHitIn 3000", x.ballHitIn(1), 3000);
        Due.is("nextHit in 3000", x.nextHit(false), 0);
        Due.is("other of nextHit in 3000", x.nextHit(true), 1);
        LineBalls y = Due.loaded("box 60;ball a at 0 speed 1 weight 1;ball b at 51 speed 0 weight 1;");
        y.pulse(59);
        Due.is("hitIn 3001", y.hitIn(), -1);
        Due.is("ballHitIn 3001", y.ballHitIn(0), -1);
        Due.is("nextHit in 3001", y.nextHit(false), -1);
        y.pulse(1);
        Due.is("hitIn 3000 behind a pulse", y.hitIn(), 3000);
    }

    // 26
    private static void nextHit() {
        Due.is("nextHit without balls", new LineBalls().nextHit(false), -1);
        Due.is("other of nextHit without balls", new LineBalls().nextHit(true), -1);
        LineBalls x = Due.loaded(Texts.TWO);
        Due.is("nextHit", x.nextHit(false), 0);
        Due.is("other of nextHit", x.nextHit(true), 1);
        // In one pulse: e bounces, then d hits c to the left, then a hits b to the right.
        LineBalls y = Due.loaded("box 20;ball a at 2 speed 60 weight 1;ball b at 3 speed 0 weight 1;"
                + "ball c at 10 speed 0 weight 1;ball d at 11 speed -60 weight 1;ball e at 0 speed -60 weight 1;");
        Due.is("the first of several", y.nextHit(false), 3);
        Due.is("other of the first of several", y.nextHit(true), 2);
        y.pulse(1);
        Due.is("as it was logged", Due.log(y), "4|/0 3x2/60 0x1/60");
        LineBalls z = Due.loaded(Texts.ROW);
        z.pulse(1);
        z.pulse(2);
        Due.is("an older hit is none", z.hitIn() > 1 ? 1 : 0, 1);
        int mover = z.nextHit(false);
        int other = z.nextHit(true);
        z.pulse(z.hitIn());
        Due.is("mover as it came", mover, z.logged(0, 1));
        Due.is("other as it came", other, z.logged(0, 2));
    }

    // 27
    private static void ballHitIn() {
        LineBalls x = Due.loaded("box 40;ball a at 2 speed 60 weight 1;ball b at 3 speed 0 weight 1;"
                + "ball c at 6 speed 0 weight 1;post 7 steal 0;ball d at 9 speed 60 weight 1;");
        Due.is("in its own turn", x.ballHitIn(0), 1);
        Due.is("in the other's turn", x.ballHitIn(1), 1);
        // b goes to 4 and 5 in the pulses 2 and 3 and hits c in the next.
        Due.is("later", x.ballHitIn(2), 4);
        Due.is("never", x.ballHitIn(3), -1);
        Due.refuses("ballHitIn(4)", x, Texts.INDEX, () -> x.ballHitIn(4));
        Due.refuses("ballHitIn(-1)", x, Texts.INDEX, () -> x.ballHitIn(-1));
    }

    /** A wall takes the 200th turn of each way; 50 ticks are 1500 turns of a ball with 30. */
    private static void oneBallForeseen() {
        LineBalls x = Due.loaded("box 200;ball a at 0 speed 30 weight 2;");
        Due.is("cell now", x.cellIn(0, 0), 0);
        Due.is("cell in a tick", x.cellIn(0, 1), 30);
        Due.is("cell in 50 ticks", x.cellIn(0, 50), 99);
        Due.is("speed now", x.speedIn(0, 0), 30);
        Due.is("speed in 6 ticks", x.speedIn(0, 6), 30);
        Due.is("speed in 7 ticks", x.speedIn(0, 7), -30);
        Due.is("speed in 50 ticks", x.speedIn(0, 50), -30);
        Due.is("bounces now", x.bouncesIn(0), 0);
        Due.is("bounces in 50 ticks", x.bouncesIn(50), 7);
        Due.is("hits in 50 ticks", x.hitsIn(50), 0);
        Due.is("energy in 50 ticks", x.energyIn(50), 1800);
    }

    /** It bounces at once (30 then), at the right wall in the 21st pulse, at the left one in the 41st (15 then). */
    private static void stealingForeseen() {
        LineBalls x = Due.loaded("box 10 steal 50 0;ball a at 0 speed -60 weight 2;");
        Due.is("energy now", x.energyIn(0), 7200);
        Due.is("energy in a tick", x.energyIn(1), 450);
        Due.is("speed in a tick", x.speedIn(0, 1), 15);
        Due.is("cell in a tick", x.cellIn(0, 1), 4);
        Due.is("bounces in a tick", x.bouncesIn(1), 3);
        x.pulse(1);
        Due.is("those ahead of it do not count", x.bouncesIn(0), 0);
        LineBalls y = Due.loaded(Texts.TWO);
        Due.is("hits now", y.hitsIn(0), 0);
        y.pulse(2);
        Due.is("hits ahead of it do not count", y.hitsIn(0), 0);
    }

    private static void refusals() {
        LineBalls x = Due.loaded(Texts.TWO);
        Due.refuses("cellIn(2, 51)", x, Texts.INDEX, () -> x.cellIn(2, 51));
        Due.refuses("cellIn(-1, 0)", x, Texts.INDEX, () -> x.cellIn(-1, 0));
        Due.refuses("speedIn(2, -1)", x, Texts.INDEX, () -> x.speedIn(2, -1));
        Due.refuses("speedIn(-1, 0)", x, Texts.INDEX, () -> x.speedIn(-1, 0));
        for (int ticks : new int[] {-1, 51, Texts.LEAST, Texts.MOST}) {
            Due.refuses("cellIn(0, " + ticks + ")", x, Texts.ARGUMENT, () -> x.cellIn(0, ticks));
            Due.refuses("speedIn(0, " + ticks + ")", x, Texts.ARGUMENT, () -> x.speedIn(0, ticks));
            Due.refuses("hitsIn(" + ticks + ")", x, Texts.ARGUMENT, () -> x.hitsIn(ticks));
            Due.refuses("bouncesIn(" + ticks + ")", x, Texts.ARGUMENT, () -> x.bouncesIn(ticks));
            Due.refuses("energyIn(" + ticks + ")", x, Texts.ARGUMENT, () -> x.energyIn(ticks));
            Due.refuses("energyIf(ticks " + ticks + ")", x, Texts.ARGUMENT, () -> x.energyIf(true, 0, ticks));
        }
        Due.refuses("energyIf(steals -1)", x, Texts.ARGUMENT, () -> x.energyIf(true, -1, 0));
        Due.refuses("energyIf(steals 101)", x, Texts.ARGUMENT, () -> x.energyIf(false, 101, 0));
    }

    // 28 to 32: what is foreseen comes
    private static void foreseenAsItComes() {
        String text = "box 30 steal 7 13;post 20 steal 3;ball a at 1 speed 60 weight 3;ball b at 5 speed -47 weight 19;"
                + "ball c at 9 speed 31 weight 7;ball d at 25 speed 60 weight 20;";
        for (int ticks : new int[] {1, 2, 7, 50}) {
            LineBalls x = Due.loaded(text);
            x.pulse(11);
            LineBalls y = Due.loaded(text);
            y.pulse(11);
            int hits = y.count(0);
            int bounces = y.count(1);
            y.tick(ticks);
            for (int ball = 0; ball < 4; ball++) {
                Due.is("cellIn " + ball + ", " + ticks, x.cellIn(ball, ticks), y.ball(ball, 0));
                Due.is("speedIn " + ball + ", " + ticks, x.speedIn(ball, ticks), y.ball(ball, 1));
            }
            Due.is("hitsIn " + ticks, x.hitsIn(ticks), y.count(0) - hits);
            Due.is("bouncesIn " + ticks, x.bouncesIn(ticks), y.count(1) - bounces);
            Due.is("energyIn " + ticks, x.energyIn(ticks), y.account(1));
            Due.is("there are hits and bounces", y.count(0) > hits && y.count(1) > bounces ? 1 : 0, 1);
        }
    }

    // 33: with 1 it comes to the wall that steals all in as many ticks as it has cells to go, and one more
    private static void calmIn() {
        Due.is("calm without balls", new LineBalls().calmIn(), 0);
        Due.is("calm now", Due.loaded(Texts.THREE).calmIn(), 0);
        Due.is("calm within a tick", Due.loaded("box 10 steal 0 100;ball a at 9 speed 60 weight 1;").calmIn(), 1);
        Due.is("calm in 50", Due.loaded("box 60 steal 0 100;ball a at 10 speed 1 weight 1;").calmIn(), 50);
        Due.is("calm in 51", Due.loaded("box 60 steal 0 100;ball a at 9 speed 1 weight 1;").calmIn(), -1);
        Due.is("calm in 2", Due.loaded("box 60 steal 0 100;ball a at 58 speed 1 weight 1;ball b at 10 speed 0 weight 9;").calmIn(), 2);
        LineBalls x = Due.loaded("box 60 steal 0 100;ball a at 40 speed 1 weight 1;");
        Due.is("calm in 20", x.calmIn(), 20);
        x.pulse(59);
        Due.is("calm in 20 behind 59 pulses", x.calmIn(), 20);
        x.pulse(1);
        Due.is("calm in 19", x.calmIn(), 19);
        x.place(0, 57);
        Due.is("calm in 3", x.calmIn(), 3);
        Due.is("never calm", Due.loaded(Texts.TWO.replace("50 0", "0 0")).calmIn(), -1);
    }

    // 34
    private static void energyIf() {
        LineBalls x = Due.loaded("box 10 steal 50 0;ball a at 0 speed -60 weight 2;");
        Due.is("now", x.energyIf(false, 0, 0), 7200);
        Due.is("as it is", x.energyIf(false, 50, 1), 450);
        Due.is("as it is on the right", x.energyIf(true, 0, 1), 450);
        Due.is("nothing stolen", x.energyIf(false, 0, 50), 7200);
        Due.is("all stolen", x.energyIf(false, 100, 1), 0);
        Due.is("all stolen on the right", x.energyIf(true, 100, 1), 0);
        // 30 * 10 / 100 is 3, 27 then; 27 * 50 / 100 is 13, 14 then.
        Due.is("10 on the right", x.energyIf(true, 10, 1), 392);
        Due.is("the wall steals what it stole", x.wall(false, 0) * 1000 + x.wall(true, 0), 50000);
        Due.is("and the energy comes as it came", x.energyIn(1), 450);
    }

    private static void asksChangeNothing() {
        LineBalls x = Due.loaded(Texts.TWO);
        x.pulse(3);
        Due.feed(x, "abc");
        x.writeBalls();
        String before = Due.all(x);
        x.traded(0, 1, true);
        x.bounced(0, 50);
        x.dueIn(0);
        x.hitIn();
        x.nextHit(true);
        x.ballHitIn(0);
        x.cellIn(0, 50);
        x.speedIn(0, 50);
        x.hitsIn(50);
        x.bouncesIn(50);
        x.energyIn(50);
        x.calmIn();
        x.energyIf(true, 100, 50);
        x.meanSpeed();
        x.share(0);
        x.middle();
        Due.is("behind all asks", Due.all(x), before);
    }
}
