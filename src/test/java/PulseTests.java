/** Section 2 and promises 38 and 39: saving, turns, bounces, hits, ticks. */
public final class PulseTests {
    public static void main(String[] args) {
        saving();
        bouncing();
        bouncingBothWays();
        tenBalls();
        orderOfTurns();
        struckBalls();
        bounceAheadOfHit();
        notDueNotWaiting();
        trades();
        pushStays();
        pulse();
        tick();
        Due.finish();
    }

    private static void saving() {
        LineBalls x = Due.loaded("box 10;ball a at 3 speed 59 weight 3;ball b at 5 speed -1 weight 1;"
                + "ball c at 8 speed 0 weight 1;");
        x.pulse(1);
        Due.is("not due with 59", Due.balls(x), "0@3:59 1@5:-1 2@8:0");
        Due.is("saved 59", x.ball(0, 3), 59);
        Due.is("saved without the sign", x.ball(1, 3), 1);
        Due.is("nothing saved", x.ball(2, 3), 0);
        x.pulse(1);
        Due.is("due with 118", Due.balls(x), "0@4:59 1@5:-1 2@8:0");
        Due.is("saved 58", x.ball(0, 3), 58);
        LineBalls y = Due.loaded("box 10;ball a at 3 speed -30 weight 3;");
        y.pulse(2);
        Due.is("due with 60 to the left", Due.balls(y), "0@2:-30");
        Due.is("saved 0", y.ball(0, 3), 0);
    }

    private static void bouncing() {
        LineBalls x = Due.loaded("box 10 steal 0 33;ball a at 8 speed 59 weight 3;");
        x.pulse(2);
        Due.is("ahead of the bounce", Due.balls(x), "0@9:59");
        x.pulse(1);
        // 59 * 33 / 100 is 19.47.
        Due.is("19 less", Due.balls(x), "0@9:-40");
        Due.is("saved 57", x.ball(0, 3), 57);
        Due.is("log", Due.log(x), "0|/19");
        Due.is("got", x.account(2), 3 * 99);
        Due.is("bounces", x.ball(0, 6), 1);
        x.pulse(1);
        Due.is("due at once", Due.balls(x), "0@8:-40");
        LineBalls y = Due.loaded("box 10 steal 100 0;ball a at 0 speed -60 weight 2;");
        y.pulse(3);
        Due.is("all stolen", Due.balls(y), "0@0:0");
        Due.is("log of all", Due.log(y), "0|/60");
        Due.is("got of all", y.account(2), -120);
        LineBalls z = Due.loaded("box 10 steal 99 0;ball a at 0 speed -1 weight 1;");
        z.pulse(60);
        Due.is("rounded down to nothing", Due.balls(z), "0@0:1");
        Due.is("log of nothing", Due.log(z), "0|/0");
        LineBalls u = Due.loaded("box 10 steal 0 99;ball a at 9 speed 1 weight 1;");
        u.pulse(60);
        Due.is("rounded down to nothing on the right", Due.balls(u), "0@9:-1");
    }

    private static void tenBalls() {
        LineBalls x = Due.loaded("box 20;");
        for (int i = 0; i < 10; i++) {
            x.addBall(i, 60, 1);
        }
        x.pulse(10);
        Due.is("all go to the right", Due.line(x), "..........0123456789");
        x.pulse(1);
        // 9 bounces; then 8 hits it, 7 hits 8, and so on: each takes over what the next one had.
        Due.is("one behind the other", x.count(0) * 10 + x.count(1), 91);
        Due.is("speeds", Due.balls(x), "0@10:-60 1@11:60 2@12:60 3@13:60 4@14:60 5@15:60 6@16:60 7@17:60 8@18:60 9@19:60");
        for (int i = 0; i < 10; i++) {
            x.place(i, i);
            x.kick(i, -60);
            x.kick(i, -60);
        }
        x.pulse(1);
        Due.is("and so to the left", Due.balls(x),
                "0@0:-60 1@1:-60 2@2:-60 3@3:-60 4@4:-60 5@5:-60 6@6:-60 7@7:-60 8@8:-60 9@9:60");
    }

    private static void bouncingBothWays() {
        LineBalls x = Due.loaded("box 10;post 4 steal 10;post 6 steal 50;ball a at 5 speed 60 weight 1;");
        x.pulse(1);
        Due.is("right post", Due.balls(x), "0@5:-30");
        x.pulse(2);
        Due.is("left post", Due.balls(x), "0@5:27");
        Due.is("log", Due.log(x), "0|/30 0|/3");
        Due.is("got", x.account(2), 90 - 57);
        Due.is("walls have none", x.wall(true, 1) + x.wall(false, 1), 0);
    }

    private static void orderOfTurns() {
        LineBalls x = Due.loaded("box 10;ball a at 5 speed -60 weight 1;ball b at 4 speed -60 weight 1;");
        x.pulse(1);
        Due.is("to the left the lowest first", Due.line(x), "...10.....");
        LineBalls y = Due.loaded("box 10;ball a at 4 speed 60 weight 1;ball b at 5 speed 60 weight 1;");
        y.pulse(1);
        Due.is("to the right the highest first", Due.line(y), ".....01...");
        LineBalls z = Due.loaded("box 10;ball a at 3 speed 60 weight 1;ball b at 5 speed -60 weight 1;");
        z.pulse(1);
        Due.is("the left ones first", Due.balls(z), "0@3:-60 1@4:60");
        Due.is("the right one's turn", Due.log(z), "0x1/120");
        LineBalls u = Due.loaded("box 10;ball a at 4 speed -60 weight 1;ball b at 5 speed 60 weight 1;");
        u.pulse(1);
        Due.is("apart", Due.line(u), "...0..1...");
        LineBalls v = Due.loaded("box 10;ball a at 0 speed -60 weight 1;ball b at 9 speed 60 weight 1;"
                + "ball c at 4 speed 60 weight 1;ball d at 5 speed 0 weight 1;ball e at 7 speed 0 weight 1;"
                + "ball f at 8 speed -60 weight 1;");
        v.pulse(1);
        Due.is("log by turns", Due.log(v), "0|/0 5x4/60 1|/0 2x3/60");
    }

    private static void struckBalls() {
        LineBalls x = Due.loaded("box 10;ball a at 4 speed 60 weight 1;ball b at 5 speed -60 weight 1;");
        x.pulse(1);
        Due.is("one hit alone", Due.log(x), "1x0/120");
        Due.is("no step", Due.balls(x), "0@4:-60 1@5:60");
        Due.is("no cells gone, no wait", x.count(3) + x.count(2), 0);
        Due.is("saved less 60 all the same", x.ball(0, 3), 0);
        LineBalls y = Due.loaded(Texts.ROW);
        y.pulse(1);
        Due.is("hit again in the same pulse", Due.log(y), "1x0/120 2x1/120");
        Due.is("speeds behind both", Due.balls(y), "0@4:-60 1@5:-60 2@6:60");
        Due.is("hits of 1", y.ball(1, 5), 2);
        y.pulse(1);
        Due.is("the next pulse begins anew", Due.balls(y), "0@3:-60 1@4:-60 2@7:60");
        // With k 0 nothing is traded, and still both have been hit: b, due to the right, stays where it is.
        LineBalls z = Due.loaded("box 10;ball a at 4 speed 59 weight 20;ball b at 5 speed 59 weight 1;");
        z.pulse(1);
        z.kick(0, 1);
        z.place(1, 6);
        z.pulse(1);
        Due.is("each goes its cell", Due.balls(z), "0@5:60 1@7:59");
        z.place(1, 6);
        z.kick(1, -59);
        z.pulse(1);
        Due.is("k is less until it fits", Due.balls(z), "0@5:57 1@6:60");
    }

    private static void bounceAheadOfHit() {
        LineBalls x = Due.loaded("box 10;ball a at 0 speed -60 weight 1;ball b at 1 speed -60 weight 1;");
        x.pulse(1);
        Due.is("bounced, then hit", Due.log(x), "0|/0 1x0/120");
        Due.is("speeds", Due.balls(x), "0@0:-60 1@1:60");
        LineBalls y = Due.loaded("box 10;ball a at 9 speed 60 weight 1;ball b at 8 speed 60 weight 1;");
        y.pulse(1);
        Due.is("bounced on the right, then hit", Due.log(y), "0|/0 1x0/120");
        Due.is("speeds on the right", Due.balls(y), "1@8:-60 0@9:60");
    }

    private static void notDueNotWaiting() {
        // a is hit by b from behind while it goes away more slowly.
        LineBalls x = Due.loaded("box 10;ball a at 5 speed 10 weight 1;ball b at 4 speed 60 weight 1;");
        x.pulse(1);
        Due.is("hit from behind", Due.balls(x), "1@4:10 0@5:60");
        Due.is("by number", Due.log(x), "1x0/50");
        // Due to the left against one that goes to the left as fast: it waits.
        LineBalls y = Due.loaded("box 10;ball a at 4 speed -60 weight 1;ball b at 5 speed -60 weight 1;"
                + "post 3 steal 100;");
        y.pulse(1);
        Due.is("a bounces to 0, b hits it", Due.log(y), "0|/60 1x0/60");
        LineBalls z = Due.loaded("box 10;ball a at 4 speed 0 weight 1;ball b at 5 speed -30 weight 1;");
        z.pulse(1);
        z.kick(0, -30);
        z.pulse(1);
        Due.is("waits to the left", z.ball(1, 7) * 10 + z.ball(0, 7), 10);
        Due.is("stays", Due.balls(z), "0@4:-30 1@5:-30");
        z.kick(0, -1);
        z.pulse(2);
        Due.is("goes behind it", Due.balls(z), "0@3:-31 1@4:-30");
    }

    private static void trades() {
        trade("60 weight 20", "59 weight 1", 60, 59, "0x1/0", 1);
        trade("60 weight 1", "-60 weight 20", -60, -54, "1x0/6", 1);
        trade("60 weight 20", "-60 weight 1", 54, 60, "1x0/6", 1);
        trade("60 weight 4", "30 weight 6", 24, 54, "0x1/12", 1);
        trade("60 weight 6", "0 weight 3", 30, 60, "0x1/30", 1);
        trade("60 weight 7", "58 weight 7", 58, 60, "0x1/2", 1);
        trade("60 weight 2", "50 weight 3", 48, 58, "0x1/4", 1);
        trade("0 weight 12", "-60 weight 18", -60, -20, "1x0/20", 1);
        trade("5 weight 9", "-60 weight 6", -47, 18, "1x0/26", 1);
        trade("30 weight 1", "29 weight 2", 28, 30, "0x1/1", 2);
    }

    private static void trade(String left, String right, int leftDue, int rightDue, String log, int pulses) {
        String text = "box 10;ball b at 5 speed " + right + ";ball a at 4 speed " + left + ";";
        LineBalls y = Due.loaded(text);
        Due.is("left asked first, " + text, y.traded(1, 0, false), leftDue);
        Due.is("right asked second, " + text, y.traded(1, 0, true), rightDue);
        Due.is("right asked first, " + text, y.traded(0, 1, false), rightDue);
        Due.is("left asked second, " + text, y.traded(0, 1, true), leftDue);
        LineBalls x = Due.loaded("box 10;ball a at 4 speed " + left + ";ball b at 5 speed " + right + ";");
        long before = x.ball(1, 1);
        x.pulse(pulses);
        Due.is("left of " + text, x.ball(0, 1), leftDue);
        Due.is("right of " + text, x.ball(1, 1), rightDue);
        Due.is("log of " + text, Due.log(x), log);
        Due.is("traded of " + text, x.account(3), x.ball(1, 2) * (rightDue - before));
        Due.is("hits of " + text, x.count(0) * 100 + x.ball(0, 5) * 10 + x.ball(1, 5), 111);
        Due.is("got of " + text, x.account(2), 0);
    }

    /** The push changes by what walls and posts got, and by nothing else. */
    private static void pushStays() {
        LineBalls x = Due.loaded("box 30 steal 7 13;post 20 steal 3;ball a at 1 speed 60 weight 3;"
                + "ball b at 5 speed -47 weight 19;ball c at 9 speed 31 weight 7;ball d at 12 speed -3 weight 1;"
                + "ball e at 25 speed 60 weight 20;");
        long before = x.account(0);
        for (int i = 0; i < 20; i++) {
            x.pulse(7);
            Due.is("push and what was got at " + x.property(3), x.account(0) + x.account(2), before);
        }
        Due.is("there were hits", x.count(0) > 5 ? 1 : 0, 1);
    }

    // 38
    private static void pulse() {
        LineBalls x = Due.loaded(Texts.TWO);
        Due.is("no hit yet", x.pulse(1), 0);
        Due.is("the hit", x.pulse(1), 1);
        Due.is("no hit more", x.pulse(4), 0);
        Due.is("time", x.property(3), 6);
        LineBalls y = Due.loaded(Texts.ROW);
        Due.is("two hits", y.pulse(1), 2);
        Due.refuses("pulse(0)", x, Texts.ARGUMENT, () -> x.pulse(0));
        Due.refuses("pulse(-1)", x, Texts.ARGUMENT, () -> x.pulse(-1));
        Due.refuses("pulse(601)", x, Texts.ARGUMENT, () -> x.pulse(601));
        x.pulse(600);
        Due.is("time behind 600", x.property(3), 606);
        Due.is("undone", x.undo(), 4);
        Due.is("time behind undo", x.property(3), 6);
    }

    // 39
    private static void tick() {
        LineBalls x = Due.loaded(Texts.TWO);
        LineBalls y = Due.loaded(Texts.TWO);
        int hits = 0;
        for (int i = 0; i < 60; i++) {
            hits += y.pulse(1);
        }
        Due.is("hits of a tick", x.tick(1), hits);
        Due.is("a tick is 60 pulses", Due.state(x), Due.state(y));
        Due.refuses("tick(0)", x, Texts.ARGUMENT, () -> x.tick(0));
        Due.refuses("tick(51)", x, Texts.ARGUMENT, () -> x.tick(51));
        Due.refuses("tick(least)", x, Texts.ARGUMENT, () -> x.tick(Texts.LEAST));
        for (int i = 0; i < 5; i++) {
            y.pulse(600);
        }
        Due.is("hits of 50 ticks", x.tick(50), y.count(0) - hits);
        Due.is("50 ticks", Due.state(x), Due.state(y));
        Due.is("undone", x.undo(), 2);
        Due.is("time behind undo", x.property(3), 60);
    }
}
