import java.util.ArrayList;
import java.util.List;

/** The boundaries of changes, slots and undo: promises 40 to 51, section 4 of the terms, the exceptions. */
public final class EdgeChangeTests {
    private static final Edge.Maker[] ALL = {Edge::fresh, Edge::busy, Edge::full};

    public static void main(String[] args) {
        promise40();
        promise40Bounds();
        promise41();
        promise42();
        promise42Works();
        promise43();
        promise43Full();
        promise43OldNumber();
        promise43Order();
        promise44();
        promise44Numbers();
        promise45();
        promise46();
        promise47();
        promise47Order();
        promise48();
        promise49();
        promise50();
        promise50Ring();
        promise51();
        undoable();
        notUndoable();
        notUndone();
        Due.finish();
    }

    private static void promise40() {
        Edge.needsBall("P40 kick(.., 0)", (x, ball) -> x.kick(ball, 0));
        Edge.range("P40 kick(0, ..)", Texts.ARGUMENT, Edge::busy, -60, 60, (x, by) -> x.kick(0, by));
        Edge.range("P40 kick(9, ..)", Texts.ARGUMENT, Edge::full, -60, 60, (x, by) -> x.kick(9, by));
        Edge.refuses("P40 kick(3, 61)", Texts.INDEX, Edge::busy, x -> x.kick(3, 61));
        Edge.refuses("P40 kick(-1, -61)", Texts.INDEX, Edge::full, x -> x.kick(-1, -61));
        Edge.refuses("P40 kick(0, 61) of none", Texts.INDEX, Edge::fresh, x -> x.kick(0, 61));
    }

    private static void promise40Bounds() {
        LineBalls x = Due.loaded("box 10;ball a at 5 speed 0 weight 7;");
        x.keep(0);
        for (int speed = -60; speed <= 60; speed++) {
            for (int by : new int[] {-60, -59, -2, -1, 0, 1, 2, 59, 60}) {
                x.restore(0);
                x.kick(0, speed);
                int due = Math.max(-60, Math.min(60, speed + by));
                String what = "P40 " + speed + " by " + by;
                Due.is(what, x.kick(0, by), due);
                Due.is(what + ", its speed", x.ball(0, 1), due);
                Due.is("P18 " + what, x.account(4), 7 * due);
            }
        }
        LineBalls y = Due.loaded("box 10;ball a at 5 speed 59 weight 7;");
        y.pulse(1);
        y.kick(0, -60);
        Due.is("P40 what was saved stays", y.ball(0, 3), 59);
    }

    private static void promise41() {
        Edge.needsBall("P41 setWeight(.., 1)", (x, ball) -> x.setWeight(ball, 1));
        Edge.range("P41 setWeight(0, ..)", Texts.ARGUMENT, Edge::busy, 1, 20, (x, weight) -> x.setWeight(0, weight));
        Edge.range("P41 setWeight(9, ..)", Texts.ARGUMENT, Edge::full, 1, 20, (x, weight) -> x.setWeight(9, weight));
        Edge.refuses("P41 setWeight(0, -1)", Texts.ARGUMENT, Edge::busy, x -> x.setWeight(0, -1));
        Edge.refuses("P41 setWeight(3, 0)", Texts.INDEX, Edge::busy, x -> x.setWeight(3, 0));
        Edge.refuses("P41 setWeight(-1, 21)", Texts.INDEX, Edge::full, x -> x.setWeight(-1, 21));
        LineBalls x = Due.loaded("box 10;ball a at 5 speed -60 weight 20;");
        int before = 20;
        for (int weight = 1; weight <= 20; weight++) {
            Due.is("P41 the previous weight", x.setWeight(0, weight), before);
            Due.is("P41 the weight", x.ball(0, 2), weight);
            Due.is("P18 pushes by setWeight", x.account(4), -60 * (weight - 20));
            before = weight;
        }
        Due.is("P41 to the same", x.setWeight(0, 20), 20);
    }

    private static void promise42() {
        Edge.range("P42 setSteal(.., 0) without posts", Texts.INDEX, Edge::fresh, -2, -1, (x, post) -> x.setSteal(post, 0));
        Edge.range("P42 setSteal(.., 0) of two", Texts.INDEX, Edge::busy, -2, 1, (x, post) -> x.setSteal(post, 0));
        Edge.range("P42 setSteal(.., 100) of four", Texts.INDEX, Edge::full, -2, 3, (x, post) -> x.setSteal(post, 100));
        for (Edge.Maker maker : ALL) {
            Edge.range("P42 setSteal(-1, ..)", Texts.ARGUMENT, maker, 0, 100, (x, steals) -> x.setSteal(-1, steals));
            Edge.range("P42 setSteal(-2, ..)", Texts.ARGUMENT, maker, 0, 100, (x, steals) -> x.setSteal(-2, steals));
        }
        Edge.range("P42 setSteal(1, ..)", Texts.ARGUMENT, Edge::busy, 0, 100, (x, steals) -> x.setSteal(1, steals));
        Edge.range("P42 setSteal(3, ..)", Texts.ARGUMENT, Edge::full, 0, 100, (x, steals) -> x.setSteal(3, steals));
        Edge.refuses("P42 setSteal(-3, 101)", Texts.INDEX, Edge::busy, x -> x.setSteal(-3, 101));
        Edge.refuses("P42 setSteal(2, -1)", Texts.INDEX, Edge::busy, x -> x.setSteal(2, -1));
        Edge.refuses("P42 setSteal(0, 101) without posts", Texts.INDEX, Edge::fresh, x -> x.setSteal(0, 101));
    }

    private static void promise42Works() {
        LineBalls x = Due.loaded("box 10 steal 1 2;post 4 steal 3;post 6 steal 4;ball a at 0 speed -60 weight 1;"
                + "ball b at 9 speed 60 weight 1;ball c at 5 speed 60 weight 1;");
        Due.is("P42 what they stole before", x.setSteal(-1, 100) + "," + x.setSteal(-2, 50) + "," + x.setSteal(0, 99) + ","
                + x.setSteal(1, 0), "1,2,3,4");
        Due.is("P42 what they steal", x.wall(false, 0) + "," + x.wall(true, 0) + "," + x.post(0, 1) + "," + x.post(1, 1), "100,50,99,0");
        x.pulse(2);
        Due.is("P42 bounces by that", Due.balls(x), "0@0:0 2@5:1 1@9:-30");
        Due.is("P42 again", x.setSteal(-1, 0) + "," + x.setSteal(-2, 0) + "," + x.setSteal(0, 0) + "," + x.setSteal(1, 0), "100,50,99,0");
        Due.is("P42 the bounces at them stay", x.wall(false, 1) + "," + x.wall(true, 1) + "," + x.post(0, 2) + "," + x.post(1, 2), "1,1,1,1");
        Due.is("P18 it pushes nothing", x.account(4), 0);
    }

    private static void promise43() {
        Edge.range("P43 addBall(.., 0, 1)", Texts.INDEX, Edge::fresh, 0, 9, (x, cell) -> x.addBall(cell, 0, 1));
        Edge.range("P43 addBall(.., 0, 1) to 200 cells", Texts.INDEX, () -> Due.loaded("box 200;"), 0, 199,
                (x, cell) -> x.addBall(cell, 0, 1));
        Edge.range("P43 addBall(9, .., 1)", Texts.ARGUMENT, Edge::fresh, -60, 60, (x, speed) -> x.addBall(9, speed, 1));
        Edge.range("P43 addBall(9, .., 1)", Texts.ARGUMENT, Edge::busy, -60, 60, (x, speed) -> x.addBall(9, speed, 1));
        Edge.range("P43 addBall(9, 0, ..)", Texts.ARGUMENT, Edge::fresh, 1, 20, (x, weight) -> x.addBall(9, 0, weight));
        Edge.range("P43 addBall(9, 0, ..)", Texts.ARGUMENT, Edge::busy, 1, 20, (x, weight) -> x.addBall(9, 0, weight));
        Edge.refuses("P43 addBall to the cell of ball 0", Texts.STATE, Edge::busy, x -> x.addBall(x.ball(0, 0), 0, 1));
        Edge.refuses("P43 addBall to the cell of ball 2", Texts.STATE, Edge::busy, x -> x.addBall(x.ball(2, 0), 0, 1));
        Edge.refuses("P43 addBall to post 0", Texts.STATE, Edge::busy, x -> x.addBall(4, 0, 1));
        Edge.refuses("P43 addBall to post 1", Texts.STATE, Edge::busy, x -> x.addBall(11, 0, 1));
        Edge.allows("P43 addBall beside a post", Edge::busy, x -> x.addBall(10, 0, 1));
        LineBalls x = Due.loaded("box 200;");
        Due.is("P43 the number of the first", x.addBall(199, -60, 20), 0);
        Due.is("P43 the number of the second", x.addBall(0, 60, 1), 1);
        Due.is("P43 as it was asked", Due.balls(x), "1@0:60 0@199:-60");
        Due.is("P43 weights", x.ball(0, 2) + "," + x.ball(1, 2), "20,1");
        Due.is("P18 pushes by addBall", x.account(4), -1200 + 60);
    }

    /** Nine balls may have another one, ten may not. */
    private static void promise43Full() {
        Edge.allows("P43 the tenth ball", () -> Edge.withBalls(9), x -> x.addBall(9, 0, 1));
        Edge.refuses("P43 the eleventh ball in a free cell", Texts.STATE, Edge::full, x -> x.addBall(7, 0, 1));
        Edge.refuses("P43 the eleventh ball in the cell of a ball", Texts.STATE, Edge::full, x -> x.addBall(x.ball(0, 0), 0, 1));
        Edge.refuses("P43 the eleventh ball in the cell of a post", Texts.STATE, Edge::full, x -> x.addBall(0, 0, 1));
        Edge.refuses("P43 the eleventh ball of a line that is full", Texts.STATE, () -> Edge.withBalls(10), x -> x.addBall(5, 0, 1));
        LineBalls x = Edge.withBalls(0);
        for (int i = 0; i < 10; i++) {
            Due.is("P43 its number", x.addBall(9 - i, i, 1), i);
        }
        Due.is("P43 the last one", x.ball(9, 0) + "," + x.ball(9, 1), "0,9");
        x.removeBall(4);
        Due.is("P43 the tenth one again", x.addBall(5, -1, 2), 9);
        LineBalls y = Edge.full();
        y.removeBall(9);
        int cell = Edge.full().ball(9, 0);
        Due.is("P43 a tenth one of a full object", y.addBall(cell, 7, 3), 9);
        String told = "";
        for (int what = 0; what <= 7; what++) {
            told += y.ball(9, what) + ",";
        }
        Due.is("P43 it has saved 0 and done nothing", told, cell + ",7,3,0,0,0,0,0,");
        for (int other = 0; other < 10; other++) {
            Due.is("P43 P16 it has hit none", y.hits(9, other), 0);
        }
    }

    /** The last ball has saved, gone, hit, bounced and waited; another one has its number then. */
    private static void promise43OldNumber() {
        LineBalls x = Due.loaded("box 10;post 0 steal 0;ball a at 5 speed 0 weight 1;ball b at 2 speed -60 weight 1;");
        x.pulse(5);
        Due.is("P43 it bounced, and came beside a", Due.balls(x) + " " + Due.log(x), "1@4:60 0@5:0 1|/0");
        // b is due when a is as fast, and waits; then it is due with 61 when a rests, and hits it.
        x.kick(1, -30);
        x.pulse(1);
        x.kick(0, 30);
        x.pulse(1);
        x.kick(0, -30);
        x.pulse(1);
        x.kick(1, 1);
        x.pulse(1);
        for (int what = 3; what <= 7; what++) {
            Due.is("P43 P9 it has done all, " + what, x.ball(1, what) > 0 ? 1 : 0, 1);
        }
        x.removeBall(1);
        x.addBall(9, 0, 1);
        for (int what = 3; what <= 7; what++) {
            Due.is("P43 another one has done nothing, " + what, x.ball(1, what), 0);
        }
    }

    /** Of several exceptions the first one named: no such cell, a value out of range, no place for it. */
    private static void promise43Order() {
        for (Edge.Maker maker : ALL) {
            Edge.refuses("TE P43 addBall(-1, 61, 0)", Texts.INDEX, maker, x -> x.addBall(-1, 61, 0));
            Edge.refuses("TE P43 addBall(20, 0, 21)", Texts.INDEX, maker, x -> x.addBall(20, 0, 21));
            Edge.refuses("TE P43 addBall(20, 0, 1)", Texts.INDEX, maker, x -> x.addBall(20, 0, 1));
        }
        for (Edge.Maker maker : new Edge.Maker[] {Edge::busy, Edge::full}) {
            Edge.refuses("TE P43 addBall to a ball with 61", Texts.ARGUMENT, maker, x -> x.addBall(x.ball(0, 0), 61, 1));
            Edge.refuses("TE P43 addBall to a ball with -61", Texts.ARGUMENT, maker, x -> x.addBall(x.ball(0, 0), -61, 1));
            Edge.refuses("TE P43 addBall to a post without weight", Texts.ARGUMENT, maker, x -> x.addBall(x.post(0, 0), 0, 0));
            Edge.refuses("TE P43 addBall to a post with the weight 21", Texts.ARGUMENT, maker, x -> x.addBall(x.post(0, 0), 0, 21));
        }
        Edge.refuses("TE P43 an eleventh ball without weight", Texts.ARGUMENT, Edge::full, x -> x.addBall(7, 0, 0));
    }

    private static void promise44() {
        Edge.needsBall("P44 removeBall", (x, ball) -> x.removeBall(ball));
        LineBalls x = Edge.withBalls(10);
        for (int left = 9; left >= 0; left--) {
            Due.is("P44 how many there are then", x.removeBall(left % 2 == 0 ? 0 : left), left);
            Due.is("P44 P8 the balls", x.property(1), left);
        }
        Due.is("P44 the line is free", Due.line(x), "..........");
        Due.is("P44 the first again", x.addBall(0, 0, 1), 0);
        LineBalls y = Due.loaded("box 10;ball a at 1 speed 60 weight 2;ball b at 5 speed -30 weight 20;");
        y.removeBall(1);
        Due.is("P18 pushes by removeBall", y.account(4), 600);
        y.removeBall(0);
        Due.is("P18 pushes by removeBall, both", y.account(4), 480);
    }

    /** Each of ten balls removed: those ahead of it keep their numbers, those behind it have 1 less. */
    private static void promise44Numbers() {
        for (int removed = 0; removed < 10; removed++) {
            LineBalls x = Edge.full();
            LineBalls y = Edge.full();
            x.removeBall(removed);
            for (int ball = 0; ball < 9; ball++) {
                int old = ball < removed ? ball : ball + 1;
                for (int what = 0; what <= 7; what++) {
                    Due.is("P44 ball " + old + " without " + removed + ", " + what, x.ball(ball, what), y.ball(old, what));
                }
                for (int other = 0; other < 9; other++) {
                    Due.is("P44 P16 hits without " + removed, x.hits(ball, other), y.hits(old, other < removed ? other : other + 1));
                }
                Due.is("P44 P10 its cell", x.at(x.ball(ball, 0)), ball);
            }
            for (int index = 0; index < 40; index++) {
                for (int what = 1; what <= 2; what++) {
                    int old = y.logged(index, what);
                    Due.is("P44 P17 the log without " + removed, x.logged(index, what), old == removed ? -1 : old > removed ? old - 1 : old);
                }
                Due.is("P44 P17 time and k stay", x.logged(index, 0) * 1000 + x.logged(index, 3), y.logged(index, 0) * 1000 + y.logged(index, 3));
            }
            Due.is("P44 P7 the names", Due.find(x, "a") + "," + Due.find(x, "f"),
                    (removed == 0 ? -1 : 0) + "," + (removed == 5 ? -1 : removed < 5 ? 4 : 5));
            Due.is("P44 P19 the counts stay", x.count(0) + "," + x.count(1) + "," + x.count(2) + "," + x.count(3),
                    y.count(0) + "," + y.count(1) + "," + y.count(2) + "," + y.count(3));
        }
    }

    private static void promise45() {
        Edge.needsBall("P45 turn", (x, ball) -> x.turn(ball));
        LineBalls x = Due.loaded("box 10;ball a at 5 speed 0 weight 20;");
        Due.is("P45 at rest", x.turn(0), 0);
        Due.is("P45 at rest, its speed", x.ball(0, 1), 0);
        for (int speed : new int[] {1, 59, 60}) {
            x.stop();
            x.kick(0, speed);
            Due.is("P45 to the left", x.turn(0), -speed);
            Due.is("P45 its speed", x.ball(0, 1), -speed);
            Due.is("P18 pushes by turn", x.account(4), -20 * speed);
            Due.is("P45 back", x.turn(0), speed);
            Due.is("P18 pushes by turn back", x.account(4), 20 * speed);
        }
        LineBalls y = Due.loaded("box 10;ball a at 5 speed 59 weight 1;");
        y.pulse(1);
        y.turn(0);
        Due.is("P45 what was saved stays", y.ball(0, 3), 59);
        y.pulse(1);
        Due.is("P45 it is due to the other side", y.ball(0, 0), 4);
    }

    private static void promise46() {
        Due.is("P46 without balls", new LineBalls().stop(), 0);
        Due.is("P46 all rest", Edge.withBalls(10).stop(), 0);
        LineBalls x = Edge.withBalls(10);
        for (int i = 0; i < 10; i++) {
            x.kick(i, i % 2 == 0 ? 59 : -59);
        }
        x.place(9, 9);
        x.pulse(1);
        long push = x.account(0);
        Due.is("P46 all moved", x.stop(), 10);
        for (int i = 0; i < 10; i++) {
            Due.is("P46 its speed and what it has saved", x.ball(i, 1) + "," + x.ball(i, 3), "0,59");
        }
        Due.is("P46 again", x.stop(), 0);
        Due.is("P18 pushes by stop", push + "," + x.account(0) + "," + x.account(4), "0,0,0");
        LineBalls y = Edge.withBalls(3);
        y.kick(1, -1);
        Due.is("P46 one moved", y.stop(), 1);
        y.kick(0, 60);
        y.kick(2, 60);
        Due.is("P46 two moved", y.stop(), 2);
        Due.is("P18 pushes by kick and stop", y.account(4), 0);
        LineBalls z = Due.loaded("box 10;ball a at 5 speed 60 weight 20;ball b at 6 speed 60 weight 19;");
        z.stop();
        Due.is("P18 pushes by stop alone", z.account(4), -60 * 39);
    }

    private static void promise47() {
        Edge.range("P47 place(0, ..)", Texts.INDEX, () -> Edge.withBalls(1), 0, 9, (x, cell) -> x.place(0, cell));
        Edge.range("P47 place(0, ..) of 200 cells", Texts.INDEX, () -> Due.loaded("box 200;ball a at 100 speed 1 weight 1;"), 0, 199,
                (x, cell) -> x.place(0, cell));
        Edge.needsBall("P47 place(.., its own or 9)", (x, ball) -> x.place(ball, ball >= 0 && ball < x.property(1) ? x.ball(ball, 0) : 9));
        Edge.refuses("P47 place(0, 12)", Texts.INDEX, Edge::busy, x -> x.place(0, 12));
        Edge.refuses("P47 place(0, -1)", Texts.INDEX, Edge::busy, x -> x.place(0, -1));
        Edge.refuses("P47 place to another ball", Texts.STATE, Edge::busy, x -> x.place(0, x.ball(1, 0)));
        Edge.refuses("P47 place to another ball", Texts.STATE, Edge::full, x -> x.place(0, x.ball(9, 0)));
        Edge.refuses("P47 place to a post", Texts.STATE, Edge::busy, x -> x.place(2, 4));
        Edge.refuses("P47 place to the last post", Texts.STATE, Edge::full, x -> x.place(9, 19));
        Edge.refuses("TE P47 no ball to a post", Texts.INDEX, Edge::busy, x -> x.place(3, 4));
        Edge.refuses("TE P47 no ball to a ball", Texts.INDEX, Edge::full, x -> x.place(-1, x.ball(0, 0)));
        Edge.refuses("TE P47 no ball to no cell", Texts.INDEX, Edge::busy, x -> x.place(3, 12));
        LineBalls x = Edge.busy();
        String before = Due.state(x);
        Due.is("P47 its own cell", x.place(0, 5), 5);
        Due.is("P47 its own cell: it goes no cells", Due.state(x), before);
        Due.is("P47 T4 and that can be undone", x.undoCount(), 6);
        Due.is("P47 its previous cell", x.place(0, 0), 5);
        Due.is("P47 to the first cell", x.at(0) + "," + x.at(5) + "," + x.ball(0, 0), "0,-1,0");
        Due.is("P47 it goes no cells by that", x.ball(0, 4) + "," + x.count(3), Edge.busy().ball(0, 4) + "," + Edge.busy().count(3));
        Due.is("P47 speed and saved stay", x.ball(0, 1) + "," + x.ball(0, 3), Edge.busy().ball(0, 1) + "," + Edge.busy().ball(0, 3));
        Due.is("P18 it pushes nothing", x.account(4), Edge.busy().account(4));
    }

    /** Ten balls put into the other order one by one: what goes by the cells goes by the new ones. */
    private static void promise47Order() {
        LineBalls x = Due.loaded("box 20;");
        for (int i = 0; i < 10; i++) {
            x.addBall(i, 0, 1);
        }
        for (int i = 0; i < 10; i++) {
            Due.is("P47 previous cell", x.place(i, 19 - i), i);
            Due.is("P47 P13 the highest", x.placed(9), 0);
            Due.is("P47 P13 the lowest", x.placed(0), i == 9 ? 9 : i + 1);
        }
        Due.is("P47 P52 the line", Due.line(x), "..........9876543210");
        for (int i = 0; i < 10; i++) {
            x.kick(i, -60);
        }
        x.pulse(1);
        Due.is("P47 T2 turns by the new cells", Due.line(x), ".........9876543210.");
    }

    private static void promise48() {
        for (Edge.Maker maker : ALL) {
            Edge.range("P48 keep", Texts.INDEX, maker, 0, 1, (x, slot) -> x.keep(slot));
            for (int slot = 0; slot <= 1; slot++) {
                LineBalls x = maker.make();
                int count = x.undoCount();
                String state = Due.state(x);
                String output = Due.output(x);
                int time = x.property(3);
                Due.is("P48 the time", x.keep(slot), time);
                Due.is("P48 T4 it cannot be undone", x.undoCount(), count);
                Due.is("P48 the rest stays", Due.state(x) + output, state + Due.output(x));
                x.setSteal(-1, 98 + slot);
                x.tick(2);
                Due.is("P49 the time of what was kept", x.restore(slot), time);
                Due.is("P49 what was kept", Due.state(x), state);
            }
        }
        LineBalls x = new LineBalls();
        x.keep(0);
        x.pulse(3);
        Due.is("P48 in place of what was there", x.keep(0), 3);
        x.pulse(4);
        Due.is("P48 in the other slot", x.keep(1), 7);
        x.pulse(5);
        Due.is("P49 slot 0", x.restore(0), 3);
        Due.is("P49 slot 1", x.restore(1), 7);
        Due.is("P49 slot 0 again", x.restore(0), 3);
        Due.is("P49 T4 each can be undone", x.undoCount(), 6);
        LineBalls y = new LineBalls();
        y.pulse(2);
        y.keep(1);
        y.undo();
        Due.is("P48 T4 undo leaves the slots", y.restore(1), 2);
        y.undo();
        y.keep(1);
        y.pulse(9);
        y.undo();
        Due.is("P48 T4 undo leaves the latest in the slots", y.restore(1), 0);
    }

    private static void promise49() {
        for (Edge.Maker maker : ALL) {
            Edge.refuses("TE P49 restore(-1)", Texts.INDEX, maker, x -> x.restore(-1));
            Edge.refuses("TE P49 restore(2)", Texts.INDEX, maker, x -> x.restore(2));
            Edge.refuses("P49 restore(least)", Texts.INDEX, maker, x -> x.restore(Texts.LEAST));
            Edge.refuses("P49 restore(most)", Texts.INDEX, maker, x -> x.restore(Texts.MOST));
        }
        Edge.refuses("P49 restore(0) of nothing", Texts.STATE, Edge::fresh, x -> x.restore(0));
        Edge.refuses("P49 restore(1) of nothing", Texts.STATE, Edge::fresh, x -> x.restore(1));
        Edge.refuses("P49 restore(1) with slot 0 alone", Texts.STATE, Edge::busy, x -> x.restore(1));
        Edge.refuses("P49 restore(0) with slot 1 alone", Texts.STATE, () -> {
            LineBalls x = new LineBalls();
            x.keep(1);
            return x;
        }, x -> x.restore(0));
        Edge.allows("P49 restore(0)", Edge::busy, x -> x.restore(0));
        Edge.allows("P49 restore(1)", Edge::full, x -> x.restore(1));
        LineBalls x = Edge.busy();
        String output = Due.output(x);
        Due.is("P49 the time then", x.restore(0), 3);
        String kept = Due.state(x);
        Due.is("P49 T4 buffers and parse error stay", Due.inputLength(x) + output + x.errorCode() + x.errorPosition(),
                36 + Due.output(x) + 2 + 4);
        x.removeBall(0);
        x.kick(0, 1);
        x.tick(1);
        x.setSteal(0, 99);
        Due.is("P49 the slot keeps it", x.restore(0), 3);
        Due.is("P49 as it was kept", Due.state(x), kept);
        Due.is("P49 its names", Due.find(x, "cccccc") + "," + Due.find(x, "bb"), "0,2");
        Due.load(x, "box 200;ball q at 1 speed 1 weight 1;");
        x.tick(1);
        Due.is("P49 behind load", x.restore(0), 3);
        Due.is("P49 as it was kept, behind load", Due.state(x), kept);
        Due.is("P49 its names, behind load", Due.find(x, "cccccc") + "," + Due.find(x, "q"), "0,-1");
    }

    private static void promise50() {
        Edge.refuses("P50 nothing to undo", Texts.STATE, Edge::fresh, x -> x.undo());
        Edge.refuses("P50 nothing to undo behind asks, writes, keep and a text with an error", Texts.STATE, () -> {
            LineBalls x = new LineBalls();
            x.hitIn();
            x.writeLine();
            x.keep(0);
            Due.load(x, "box 9;");
            return x;
        }, x -> x.undo());
        for (int calls = 1; calls <= 20; calls++) {
            LineBalls x = new LineBalls();
            List<String> states = new ArrayList<>();
            for (int i = 0; i < calls; i++) {
                states.add(Due.state(x));
                x.pulse(1);
            }
            for (int left = Math.min(calls, 6) - 1; left >= 0; left--) {
                Due.is("P50 how many can still be undone, of " + calls, x.undo(), left);
                Due.is("P50 the state ahead of it, of " + calls, Due.state(x), states.remove(states.size() - 1));
            }
            Due.is("P50 no other one, of " + calls, Edge.thrown(x, y -> y.undo()), "IllegalStateException");
            Due.is("P50 that changes nothing, of " + calls, x.property(3) + "," + x.undoCount(), Math.max(0, calls - 6) + ",0");
        }
    }

    /** Calls and undos in turn, against a list: wherever the ring of six begins. */
    private static void promise50Ring() {
        for (int calls = 1; calls <= 9; calls++) {
            for (int undos = 1; undos <= 6; undos++) {
                LineBalls x = new LineBalls();
                List<Integer> times = new ArrayList<>();
                for (int round = 0; round < 9; round++) {
                    for (int i = 0; i < calls; i++) {
                        times.add(x.property(3));
                        x.pulse(1 + round);
                    }
                    while (times.size() > 6) {
                        times.remove(0);
                    }
                    Due.is("P51 count", x.undoCount(), times.size());
                    for (int i = 0; i < undos && !times.isEmpty(); i++) {
                        Due.is("P50 still", x.undo(), times.size() - 1);
                        Due.is("P50 the time", x.property(3), times.remove(times.size() - 1));
                    }
                }
            }
        }
    }

    private static void promise51() {
        Due.is("P51 of a new object", new LineBalls().undoCount(), 0);
        LineBalls x = new LineBalls();
        for (int i = 1; i <= 20; i++) {
            x.turn(x.property(1) == 0 ? x.addBall(0, 0, 1) : 0);
            Due.is("P51 six at most", x.undoCount(), Math.min(i + 1, 6));
        }
        for (int left = 5; left >= 0; left--) {
            x.undo();
            Due.is("P51 behind undo", x.undoCount(), left);
        }
        for (Edge.Maker maker : ALL) {
            Edge.asks("P51 undoCount()", maker, y -> y.undoCount());
        }
    }

    // ---- section 4 ----

    private interface Named {
        void test(String name, Edge.Call call);
    }

    /** Each kind of call that can be undone; those marked = change nothing. */
    private static void eachChange(Named named) {
        named.test("load", x -> Due.load(x, "box 13;ball q at 1 speed 2 weight 3;"));
        named.test("pulse", x -> x.pulse(1));
        named.test("pulse(600)", x -> x.pulse(600));
        named.test("tick", x -> x.tick(50));
        named.test("kick", x -> x.kick(1, -60));
        named.test("kick =", x -> x.kick(1, 0));
        named.test("setWeight", x -> x.setWeight(2, 20));
        named.test("setWeight =", x -> x.setWeight(2, x.ball(2, 2)));
        named.test("setSteal of a post", x -> x.setSteal(1, 77));
        named.test("setSteal of the left wall", x -> x.setSteal(-1, 77));
        named.test("setSteal of the right wall", x -> x.setSteal(-2, 77));
        named.test("setSteal =", x -> x.setSteal(1, x.post(1, 1)));
        named.test("setSteal of a wall =", x -> x.setSteal(-2, x.wall(true, 0)));
        named.test("addBall", x -> x.addBall(9, 60, 20));
        named.test("removeBall", x -> x.removeBall(0));
        named.test("turn", x -> x.turn(0));
        named.test("turn at rest =", x -> x.turn(1));
        named.test("stop", x -> x.stop());
        named.test("place", x -> x.place(2, 10));
        named.test("place =", x -> x.place(2, x.ball(2, 0)));
        named.test("restore", x -> x.restore(0));
    }

    private static void undoable() {
        Due.is("T4 as many as can be undone", Edge.busy().undoCount(), 6);
        eachChange((name, call) -> {
            for (int room = 0; room <= 1; room++) {
                LineBalls x = Edge.busy();
                for (int i = 0; i < room; i++) {
                    x.undo();
                }
                String before = Due.state(x);
                String names = Due.find(x, "a") + "," + Due.find(x, "bb") + "," + Due.find(x, "cccccc");
                call.on(x);
                Due.is("T4 " + name + (name.endsWith("=") ? " changes nothing" : " changes something"),
                        Due.state(x).equals(before) ? 1 : 0, name.endsWith("=") ? 1 : 0);
                Due.is("P51 T4 " + name + " can be undone", x.undoCount(), 6);
                Due.is("P50 T4 undo of " + name, x.undo(), 5);
                Due.is("P50 T4 all behind undo of " + name, Due.state(x), before);
                Due.is("P50 T4 names behind undo of " + name,
                        Due.find(x, "a") + "," + Due.find(x, "bb") + "," + Due.find(x, "cccccc"), names);
            }
        });
        // Also if nothing changes at all: no ball moves, and all is as it was kept.
        LineBalls x = Due.loaded("box 10;");
        x.keep(1);
        String before = Due.state(x);
        x.restore(1);
        x.stop();
        Due.load(x, "box 10;");
        Due.is("T4 restore, stop and load that change nothing", x.undoCount() + Due.state(x), 4 + before);
    }

    private static void notUndoable() {
        String[] names = {"append", "truncate", "find", "load of an error", "keep(0)", "keep(1)", "writeLine", "writeBalls",
            "writeLog", "outputByte"};
        Edge.Call[] calls = {x -> x.append(0, 0, 0, 0, 0), x -> x.truncate(0), x -> x.find(), x -> Due.load(x, "box"),
            x -> x.keep(0), x -> x.keep(1), x -> x.writeLine(), x -> x.writeBalls(), x -> x.writeLog(), x -> x.outputByte(0)};
        for (int i = 0; i < calls.length; i++) {
            LineBalls x = Edge.busy();
            LineBalls y = Edge.busy();
            calls[i].on(x);
            Due.is("P51 T4 no " + names[i], x.undoCount(), y.undoCount());
            Due.is("P50 T4 undo behind " + names[i], x.undo() + Due.state(x), y.undo() + Due.state(y));
        }
        LineBalls x = Edge.busy();
        x.undo();
        Due.is("P51 T4 undo is not undone", x.undoCount(), 5);
    }

    /** What undo() leaves: the two buffers, the parse error, the two slots. */
    private static void notUndone() {
        eachChange((name, call) -> {
            LineBalls x = Edge.busy();
            call.on(x);
            x.keep(1);
            String kept = Due.state(x);
            x.writeBalls();
            String output = Due.output(x);
            Due.load(x, "box 10;ball q at 10");
            Due.feed(x, "box 77;");
            x.undo();
            Due.is("P50 T4 the output behind undo of " + name, Due.output(x), output);
            Due.is("P50 T4 the parse error behind undo of " + name, x.errorCode() + " at " + x.errorPosition(), "2 at 17");
            Due.is("P50 T4 the input behind undo of " + name, Due.inputLength(x), 7);
            x.restore(1);
            Due.is("P50 T4 the slot behind undo of " + name, Due.state(x), kept);
            x.load();
            Due.is("P50 T4 what the input is behind undo of " + name, x.property(0), 77);
        });
    }
}
