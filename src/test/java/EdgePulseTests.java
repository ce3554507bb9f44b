/** The boundaries of pulses: sections 2 and 3 of the terms, promises 38 and 39. */
public final class EdgePulseTests {
    private static final int[] SPEEDS = {-60, -59, -42, -41, -40, -39, -2, -1, 0, 1, 2, 39, 40, 41, 42, 59, 60};

    public static void main(String[] args) {
        savedAndDue();
        restingSavesNothing();
        lineEnds();
        freeCells();
        tenInARow();
        orderOfTurns();
        bounces();
        waitsOrHits();
        waitsOrHitsToTheLeft();
        tradeSizes();
        tradesOfAllWeights();
        hitsOfAllEdges();
        oneTurnAlone();
        hitAlready();
        hitWithNothing();
        ticks();
        loggedTimes();
        promise38();
        promise39();
        Due.finish();
    }

    private static void due(String what, LineBalls x, int pulses, String balls) {
        x.pulse(pulses);
        Due.is(what, Due.balls(x), balls);
    }

    /** With each speed and each amount saved: 60 make it due, 59 do not. */
    private static void savedAndDue() {
        for (int saved = 0; saved <= 59; saved++) {
            for (int pace = 1; pace <= 60; pace++) {
                LineBalls x = new LineBalls();
                int side = (saved + pace) % 2 == 0 ? 1 : -1;
                x.addBall(5, saved, 1);
                x.pulse(1);
                x.kick(0, -60);
                x.kick(0, 60 - saved);
                x.kick(0, side * pace);
                x.pulse(1);
                boolean due = saved + pace >= 60;
                Due.is("T2 saved " + saved + " and " + pace, x.ball(0, 0) + "," + x.ball(0, 1) + "," + x.ball(0, 3),
                        (due ? 5 + side : 5) + "," + side * pace + "," + (saved + pace - (due ? 60 : 0)));
            }
        }
    }

    private static void restingSavesNothing() {
        LineBalls x = Due.loaded("box 10;ball a at 5 speed 59 weight 1;");
        x.pulse(1);
        x.stop();
        x.pulse(600);
        Due.is("T2 at rest with 59 saved", x.ball(0, 0) + "," + x.ball(0, 3), "5,59");
        x.kick(0, -1);
        x.pulse(1);
        Due.is("T2 due by 1 more, to the left", x.ball(0, 0) + "," + x.ball(0, 3), "4,0");
    }

    /** The walls are beside the first and the last cell, of the shortest and of the longest line. */
    private static void lineEnds() {
        for (int cells : new int[] {10, 200}) {
            LineBalls x = Due.loaded("box " + cells + ";ball a at 1 speed -60 weight 1;ball b at " + (cells - 2)
                    + " speed 60 weight 1;");
            due("T2 the ends", x, 1, "0@0:-60 1@" + (cells - 1) + ":60");
            due("T2 bounces at the ends", x, 1, "0@0:60 1@" + (cells - 1) + ":-60");
            due("T2 back from the ends", x, 1, "0@1:60 1@" + (cells - 2) + ":-60");
            Due.is("T2 walls", x.wall(false, 1) + "," + x.wall(true, 1) + "," + x.count(1), "1,1,2");
        }
    }

    /** A cell that another ball has left in the same pulse is free; one that it has come to is not. */
    private static void freeCells() {
        LineBalls x = Due.loaded("box 10;ball a at 3 speed -60 weight 1;ball b at 4 speed -60 weight 1;"
                + "ball c at 6 speed 60 weight 1;ball d at 7 speed 60 weight 1;");
        due("T2 left in the same pulse", x, 1, "0@2:-60 1@3:-60 2@7:60 3@8:60");
        LineBalls y = Due.loaded("box 10;ball a at 4 speed -60 weight 1;ball b at 2 speed 60 weight 1;");
        due("T2 come to in the same pulse", y, 1, "1@2:-60 0@3:60");
        Due.is("T2 in the turn of the right one", Due.log(y), "1x0/120");
        LineBalls z = Due.loaded("box 10;ball a at 5 speed -60 weight 1;ball b at 2 speed 60 weight 1;");
        due("T2 both beside one another then", z, 1, "1@3:60 0@4:-60");
        Due.is("T2 no hit yet", z.count(0), 0);
        LineBalls u = Due.loaded("box 10;ball a at 2 speed 60 weight 1;ball b at 3 speed -60 weight 1;");
        due("T2 no cell free between them", u, 1, "0@2:-60 1@3:60");
        Due.is("T2 in the turn of the one that is due to the left", Due.log(u), "1x0/120");
    }

    /** As many balls as there may be, all due at once: each goes, as the one ahead of it has gone. */
    private static void tenInARow() {
        LineBalls x = Due.loaded("box 200;");
        for (int i = 0; i < 10; i++) {
            x.addBall(i, 60, 1);
        }
        x.pulse(1);
        Due.is("T2 ten to the right", Due.line(x), ".0123456789" + ".".repeat(189));
        x.pulse(189);
        Due.is("T2 ten at the right wall", Due.line(x), ".".repeat(190) + "0123456789");
        Due.is("P19 their cells, no hit", x.count(3) + "," + x.count(0) + "," + x.count(1), "1900,0,0");
        LineBalls y = Due.loaded("box 200;");
        for (int i = 0; i < 10; i++) {
            y.addBall(199 - i, -60, 1);
        }
        y.pulse(190);
        Due.is("T2 ten at the left wall", Due.line(y), "9876543210" + ".".repeat(190));
        Due.is("P19 their cells, no hit", y.count(3) + "," + y.count(0) + "," + y.count(1), "1900,0,0");
        y.pulse(1);
        Due.is("T2 the wall and nine hits", y.count(0) + "," + y.count(1) + "," + y.count(2), "9,1,0");
        // One that was removed stands nowhere any more.
        LineBalls z = Due.loaded("box 10;ball a at 4 speed 60 weight 1;ball b at 5 speed 0 weight 1;");
        z.removeBall(1);
        due("T2 the cell of a removed ball is free", z, 1, "0@5:60");
    }

    private static void orderOfTurns() {
        String text = "box 20;ball a at 13 speed -60 weight 1;ball b at 0 speed -60 weight 1;ball c at 6 speed 60 weight 1;"
                + "ball d at 19 speed 60 weight 1;ball e at 12 speed 0 weight 1;ball f at 7 speed 0 weight 1;"
                + "ball g at 3 speed 60 weight 1;ball h at 4 speed 0 weight 1;ball i at 16 speed -60 weight 1;"
                + "ball j at 15 speed 0 weight 1;";
        LineBalls x = Due.loaded(text);
        x.pulse(1);
        Due.is("T2 to the left from the lowest, then to the right from the highest", Due.log(x),
                "1|/0 0x4/60 8x9/60 3|/0 2x5/60 6x7/60");
    }

    /** Each speed and each part that is stolen, at both walls and at a post. */
    private static void bounces() {
        for (int steals = 0; steals <= 100; steals++) {
            LineBalls x = new LineBalls();
            Due.load(x, "box 10 steal " + steals + " " + steals + ";post 4 steal " + steals + ";");
            x.addBall(0, 0, 3);
            x.addBall(9, 0, 1);
            x.addBall(5, 0, 20);
            x.keep(0);
            for (int pace = 1; pace <= 60; pace++) {
                int less = (int) Math.floor(pace * steals / 100.0);
                int rest = pace - less;
                x.restore(0);
                x.kick(0, -pace);
                x.kick(1, pace);
                x.kick(2, -pace);
                String what = "T2 " + pace + " and " + steals + " of 100";
                Due.is("P23 " + what, x.bounced(0, steals) + "," + x.bounced(1, steals), rest + "," + -rest);
                x.pulse((59 + pace) / pace);
                Due.is(what, Due.balls(x), "0@0:" + rest + " 2@5:" + rest + " 1@9:" + -rest);
                Due.is(what + ", log", Due.log(x), "0|/" + less + " 2|/" + less + " 1|/" + less);
                Due.is("T3 got of " + what, x.account(2), (3 + 20) * (-pace - rest) + (pace + rest));
            }
        }
    }

    /** The left ball is due with 30, the right one is not and has this speed. */
    private static LineBalls catching(int rightSpeed) {
        LineBalls x = Due.loaded("box 10;ball a at 4 speed 30 weight 1;ball b at 5 speed 0 weight 1;");
        x.pulse(1);
        x.kick(1, rightSpeed);
        x.pulse(1);
        return x;
    }

    private static void waitsOrHits() {
        for (int speed = -59; speed <= 59; speed++) {
            LineBalls x = catching(speed);
            boolean waits = speed >= 30;
            Due.is("T2 30 behind " + speed, Due.balls(x), waits ? "0@4:30 1@5:" + speed : "0@4:" + speed + " 1@5:30");
            Due.is("T2 waits of 30 behind " + speed, x.count(2) + "," + x.ball(0, 7) + "," + x.ball(1, 7),
                    waits ? "1,1,0" : "0,0,0");
            Due.is("T2 hits of 30 behind " + speed, x.count(0) + "," + x.property(4) + "," + x.hits(0, 1),
                    waits ? "0,0,0" : "1,1,1");
            Due.is("T2 it has saved 60 less either way", x.ball(0, 3), 0);
            Due.is("P19 no cell, no bounce", x.count(1) + x.count(3), 0);
        }
    }

    /** The right ball is due with -30; the left one is not. */
    private static void waitsOrHitsToTheLeft() {
        for (int speed = -59; speed <= 59; speed++) {
            LineBalls x = Due.loaded("box 10;ball a at 5 speed -30 weight 1;ball b at 4 speed 0 weight 1;");
            x.pulse(1);
            x.kick(1, speed);
            x.pulse(1);
            boolean waits = speed <= -30;
            Due.is("T2 -30 behind " + speed, Due.balls(x), waits ? "1@4:" + speed + " 0@5:-30" : "1@4:-30 0@5:" + speed);
            Due.is("T2 waits of -30 behind " + speed, x.count(2) + "," + x.ball(0, 7) + "," + x.ball(1, 7),
                    waits ? "1,1,0" : "0,0,0");
            Due.is("T2 log of -30 behind " + speed, Due.log(x), waits ? "" : "0x1/" + (speed + 30));
        }
    }

    /** What both have behind a hit; then it is let happen, the left one being the one that is due. */
    private static void trade(String what, int vl, int ml, int vr, int mr, int left, int right) {
        LineBalls x = new LineBalls();
        x.addBall(4, vl, ml);
        x.addBall(7, vr, mr);
        Due.is("P22 T2 " + what, x.traded(0, 1, false) + "," + x.traded(0, 1, true), left + "," + right);
    }

    private static void tradeSizes() {
        trade("k is 1 as 2 of 2", 1, 1, 0, 1, 0, 1);
        trade("k is 1 as 2 of 3 is 0", 1, 1, 0, 2, -1, 1);
        trade("k is 1 as 2 of 3 is 0", 1, 2, 0, 1, 0, 2);
        trade("k is 1 as 2 of 21 is 0", 1, 20, 0, 1, 0, 20);
        trade("k is 1 as 20 of 21 is 0", 10, 20, 0, 1, 9, 20);
        trade("k is 1 as 22 of 21", 11, 20, 0, 1, 10, 20);
        trade("k is 1 as 40 of 21", 20, 20, 0, 1, 19, 20);
        trade("k is 2 as 42 of 21", 21, 20, 0, 1, 19, 40);
        trade("60 is still in range", 60, 20, 40, 1, 59, 60);
        trade("61 is not", 60, 20, 41, 1, 60, 41);
        trade("-60 is still in range", -40, 1, -60, 20, -60, -59);
        trade("-61 is not", -41, 1, -60, 20, -41, -60);
        trade("k from 11 down to 6", 60, 20, -60, 1, 54, 60);
        trade("k from 11 down to 6, of the left one", 60, 1, -60, 20, -60, -54);
        trade("all of it", 60, 1, -60, 1, -60, 60);
        trade("all of it with the same weight", 60, 20, -60, 20, -60, 60);
        trade("weights of 20 and 10 are 2 and 1", 30, 20, 0, 10, 10, 40);
        trade("weights of 20 and 15 are 4 and 3", 7, 20, 0, 15, 1, 8);
        trade("weights of 20 and 19 are both", 60, 20, 0, 19, 3, 60);
        trade("as fast", 60, 1, 60, 20, LineBalls.NO_SPEED, LineBalls.NO_SPEED);
        trade("slower", 59, 1, 60, 20, LineBalls.NO_SPEED, LineBalls.NO_SPEED);
        trade("both at rest", 0, 1, 0, 1, LineBalls.NO_SPEED, LineBalls.NO_SPEED);
        trade("slower by all", -60, 1, 60, 1, LineBalls.NO_SPEED, LineBalls.NO_SPEED);
    }

    /** All pairs of weights, with the speeds at the edges: as the document's words count it, and the push stays. */
    private static void tradesOfAllWeights() {
        LineBalls x = Due.loaded("box 10;ball a at 1 speed 0 weight 1;ball b at 8 speed 0 weight 1;");
        for (int ml = 1; ml <= 20; ml++) {
            for (int mr = 1; mr <= 20; mr++) {
                x.setWeight(0, ml);
                x.setWeight(1, mr);
                for (int vl : SPEEDS) {
                    for (int vr : SPEEDS) {
                        x.stop();
                        x.kick(0, vl);
                        x.kick(1, vr);
                        int[] behind = Model.hit(vl, vr, ml, mr);
                        int left = x.traded(0, 1, false);
                        int right = x.traded(1, 0, false);
                        String what = "P22 T2 " + vl + " of " + ml + " and " + vr + " of " + mr;
                        Due.is(what, left + "," + right, behind == null ? "-100,-100" : behind[0] + "," + behind[1]);
                        if (left != LineBalls.NO_SPEED) {
                            Due.is("T3 the push stays, " + what, left * ml + right * mr, vl * ml + vr * mr);
                        }
                    }
                }
            }
        }
    }

    /** The same for hits that happen: the left one is due to the right at once, the right one is struck ahead of any turn. */
    private static void hitsOfAllEdges() {
        int[] weights = {1, 2, 3, 4, 6, 10, 15, 19, 20};
        for (int ml : weights) {
            for (int mr : weights) {
                for (int vr = -59; vr <= 59; vr++) {
                    LineBalls x = new LineBalls();
                    x.addBall(4, 60, ml);
                    x.addBall(5, vr, mr);
                    int[] behind = Model.hit(60, vr, ml, mr);
                    String what = "T2 60 of " + ml + " and " + vr + " of " + mr;
                    Due.is("P25 " + what, x.hitIn(), 1);
                    Due.is("P38 " + what, x.pulse(1), 1);
                    Due.is(what, Due.balls(x), "0@4:" + behind[0] + " 1@5:" + behind[1]);
                    Due.is("P17 " + what, x.logged(0, 1) + "," + x.logged(0, 2) + "," + x.logged(0, 3), "0,1," + behind[2]);
                    Due.is("T3 " + what, x.account(3), mr * (behind[1] - vr));
                    Due.is("P9 P16 P19 " + what, x.ball(0, 5) + "," + x.ball(1, 5) + "," + x.hits(1, 0) + "," + x.count(0), "1,1,1,1");
                }
            }
        }
    }

    /** A ball that turned round by a bounce has had its turn. */
    private static void oneTurnAlone() {
        LineBalls x = Due.loaded("box 10;ball a at 0 speed -60 weight 1;ball b at 9 speed 60 weight 1;");
        due("T2 a bounce is the turn", x, 1, "0@0:60 1@9:-60");
        LineBalls y = Due.loaded("box 10;ball a at 4 speed 60 weight 1;ball b at 5 speed 0 weight 1;ball c at 7 speed 0 weight 1;");
        due("T2 the one that was hit is not due", y, 1, "0@4:0 1@5:60 2@7:0");
        due("T2 in the next pulse it is", y, 1, "0@4:0 1@6:60 2@7:0");
    }

    /** In one pulse b hits a, c hits b, d hits c: each was due to the left; a was due to the right and has no turn. */
    private static void hitAlready() {
        LineBalls x = Due.loaded("box 10;ball a at 3 speed 60 weight 1;ball b at 4 speed -60 weight 1;"
                + "ball c at 5 speed -60 weight 1;ball d at 6 speed -60 weight 1;");
        due("T2 hit already", x, 1, "0@3:-60 1@4:-60 2@5:-60 3@6:60");
        Due.is("T2 three hits", Due.log(x), "1x0/120 2x1/120 3x2/120");
        Due.is("P9 hits of each", x.ball(0, 5) + "," + x.ball(1, 5) + "," + x.ball(2, 5) + "," + x.ball(3, 5), "1,2,2,1");
        Due.is("P9 no cell was gone", x.count(3) + x.count(1) + x.count(2), 0);
        Due.is("T2 it has saved 60 less all the same", x.ball(0, 3) + x.ball(3, 3), 0);
        LineBalls y = Due.loaded("box 10;ball a at 6 speed -60 weight 1;ball b at 5 speed 60 weight 1;"
                + "ball c at 4 speed 60 weight 1;ball d at 3 speed 60 weight 1;");
        due("T2 to the right, too", y, 1, "3@3:-60 2@4:60 1@5:60 0@6:60");
        Due.is("T2 its hits", Due.log(y), "0x1/120 2x1/120 3x2/120");
    }

    /** k 0: both speeds stay, and it is a hit all the same. */
    private static void hitWithNothing() {
        LineBalls x = Due.loaded("box 10;ball a at 4 speed 60 weight 20;ball b at 5 speed 41 weight 1;");
        Due.is("P25 with k 0", x.hitIn(), 1);
        Due.is("P26 with k 0", x.nextHit(false) + "," + x.nextHit(true), "0,1");
        Due.is("P27 with k 0", x.ballHitIn(0) + "," + x.ballHitIn(1), "1,1");
        Due.is("P38 with k 0", x.pulse(1), 1);
        Due.is("T2 with k 0", Due.balls(x), "0@4:60 1@5:41");
        Due.is("P54 with k 0", Due.log(x), "0x1/0");
        Due.is("P9 P19 with k 0", x.ball(0, 5) + "," + x.ball(1, 5) + "," + x.count(0) + "," + x.count(2), "1,1,1,0");
        LineBalls y = Due.loaded("box 10;ball a at 5 speed -60 weight 20;ball b at 4 speed -41 weight 1;");
        Due.is("P38 with k 0 to the left", y.pulse(1), 1);
        Due.is("P54 with k 0 to the left", Due.balls(y) + " " + Due.log(y), "1@4:-41 0@5:-60 0x1/0");
    }

    private static void ticks() {
        LineBalls x = Due.loaded("box 200;ball a at 0 speed 1 weight 1;ball b at 199 speed -60 weight 1;");
        x.pulse(59);
        Due.is("T2 a pulse less than a tick", x.ball(0, 0) + "," + x.ball(1, 0), "0,140");
        x.pulse(1);
        Due.is("T2 a tick", x.ball(0, 0) + "," + x.ball(1, 0), "1,139");
        LineBalls y = Due.loaded("box 200;ball a at 0 speed 1 weight 1;ball b at 199 speed -60 weight 1;");
        y.tick(1);
        Due.is("T2 tick(1) is 60 pulses", Due.state(y), Due.state(x));
    }

    private static void loggedTimes() {
        LineBalls x = Due.loaded("box 10;ball a at 9 speed 60 weight 1;ball b at 5 speed 0 weight 1;");
        x.pulse(1);
        Due.is("T2 the time of the pulses ahead of it", x.logged(0, 0), 0);
        x.pulse(3);
        Due.is("T2 no other entry yet", x.property(4), 1);
        x.pulse(1);
        Due.is("T2 a hit in the fifth pulse", x.logged(0, 0) + " " + Due.log(x), "4 0|/0 0x1/60");
    }

    private static void promise38() {
        for (Edge.Maker maker : new Edge.Maker[] {Edge::fresh, Edge::busy, Edge::full}) {
            Edge.range("P38 pulse", Texts.ARGUMENT, maker, 1, 600, (x, pulses) -> x.pulse(pulses));
            Edge.refuses("P38 pulse(-1)", Texts.ARGUMENT, maker, x -> x.pulse(-1));
            LineBalls x = maker.make();
            LineBalls y = maker.make();
            int time = x.property(3);
            int before = x.count(0);
            int hits = 0;
            for (int i = 1; i <= 600; i++) {
                hits += y.pulse(1);
                Due.is("P38 T2 the time", y.property(3), time + i);
            }
            Due.is("P38 hits of 600 pulses", x.pulse(600), hits);
            Due.is("P38 the same counted", x.count(0) - before, hits);
            Due.is("P38 600 pulses are 600 times one", Due.state(x), Due.state(y));
        }
        Due.is("P38 without balls", new LineBalls().pulse(600), 0);
    }

    private static void promise39() {
        for (Edge.Maker maker : new Edge.Maker[] {Edge::fresh, Edge::busy, Edge::full}) {
            Edge.range("P39 tick", Texts.ARGUMENT, maker, 1, 50, (x, ticks) -> x.tick(ticks));
            Edge.refuses("P39 tick(-1)", Texts.ARGUMENT, maker, x -> x.tick(-1));
            Edge.refuses("P39 tick(60)", Texts.ARGUMENT, maker, x -> x.tick(60));
            LineBalls x = maker.make();
            LineBalls y = maker.make();
            int hits = 0;
            for (int i = 1; i <= 5; i++) {
                hits += y.pulse(600);
            }
            Due.is("P39 hits of 50 ticks", x.tick(50), hits);
            Due.is("P39 50 ticks are 3000 pulses", Due.state(x), Due.state(y));
        }
        Due.is("P39 without balls", new LineBalls().tick(50), 0);
    }
}
