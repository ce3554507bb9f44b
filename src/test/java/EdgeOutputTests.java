/** The boundaries of the output: promises 52 to 55. */
public final class EdgeOutputTests {
    private static final Edge.Maker[] ALL = {Edge::fresh, Edge::busy, Edge::full};

    public static void main(String[] args) {
        promise52();
        promise53();
        promise54();
        promise54Amounts();
        promise55();
        promise55Stays();
        writesChangeTheOutputAlone();
        Due.finish();
    }

    private static void promise52() {
        String[] due = {"..........", "2...#01....#", "#0123#4...#.67..895#"};
        for (int i = 0; i < 3; i++) {
            LineBalls x = ALL[i].make();
            if (i == 1) {
                x.place(2, 0);
            }
            Due.is("P52 the length", x.writeLine(), due[i].length());
            Due.is("P52 the line", Due.output(x), due[i]);
        }
        Due.is("P52 no free cell", Due.line(Edge.withBalls(10)), "0123456789");
        LineBalls x = Due.loaded("box 200;post 199 steal 0;post 0 steal 0;");
        Due.is("P52 200 cells", x.writeLine(), 200);
        Due.is("P52 the line of 200", Due.output(x), "#" + ".".repeat(198) + "#");
        Due.load(x, "box 10;ball a at 9 speed 0 weight 1;");
        Due.is("P52 less than was there", x.writeLine(), 10);
        Due.is("P52 in place of what was there", Due.output(x), ".........0");
    }

    private static void promise53() {
        Due.is("P53 without balls", new LineBalls().writeBalls(), 0);
        Due.is("P53 without balls", Due.balls(new LineBalls()), "");
        Due.is("P53 one ball", Due.balls(Due.loaded("box 10;ball a at 0 speed 0 weight 1;")), "0@0:0");
        for (int[] one : new int[][] {{0, -1}, {9, 9}, {10, 10}, {99, -10}, {100, 60}, {101, -60}, {110, -9}, {199, 1}}) {
            LineBalls x = Due.loaded("box 200;");
            x.addBall(one[0], one[1], 1);
            Due.is("P53 its numbers", Due.balls(x), "0@" + one[0] + ":" + one[1]);
        }
        LineBalls x = Due.loaded("box 200;");
        String due = "";
        for (int i = 0; i < 10; i++) {
            x.addBall(199 - i, -60 + i, 20);
            due = i + "@" + (199 - i) + ":" + (-60 + i) + (due.isEmpty() ? "" : " ") + due;
        }
        Due.is("P53 the longest", x.writeBalls(), 99);
        Due.is("P53 ten from left to right", Due.output(x), due);
        x.removeBall(9);
        Due.is("P53 nine", x.writeBalls(), 89);
        Due.load(x, "box 10;");
        Due.is("P53 none in place of ten", x.writeBalls() + Due.output(x), "0");
    }

    private static void promise54() {
        Due.is("P54 an empty log", new LineBalls().writeLog() + Due.log(new LineBalls()), "0");
        for (int entries : new int[] {0, 1, 2, 9, 10, 11, 39, 40, 41, 80, 81}) {
            LineBalls x = Edge.withLog(entries);
            int written = Math.min(entries, 10);
            Due.is("P54 the length of " + entries, x.writeLog(), written == 0 ? 0 : 5 * written - 1);
            Due.is("P54 the last ten of " + entries, Due.output(x), "0|/0 ".repeat(written).trim());
        }
        // Ten entries with eleven speeds: the earliest is the one that is left out.
        LineBalls x = Due.loaded("box 10;post 1 steal 0;post 3 steal 0;ball a at 2 speed 60 weight 1;");
        String due = "";
        for (int i = 0; i < 45; i++) {
            x.setSteal(i % 2 == 0 ? 1 : 0, i % 12);
            int pace = Math.abs(x.ball(0, 1));
            int less = pace * (i % 12) / 100;
            x.pulse(1);
            due += " 0|/" + less;
            x.kick(0, x.ball(0, 1) > 0 ? less : -less);
            String[] parts = due.trim().split(" ");
            int from = Math.max(0, parts.length - 10);
            Due.is("P54 the earliest first", Due.log(x), String.join(" ", java.util.Arrays.copyOfRange(parts, from, parts.length)));
        }
    }

    /** The number behind the byte / has one, two or three digits. */
    private static void promise54Amounts() {
        for (int k : new int[] {61, 99, 100, 101, 119, 120}) {
            LineBalls x = Due.loaded("box 10;ball a at 4 speed " + (k - 60) + " weight 1;ball b at 5 speed -60 weight 1;");
            x.pulse(1);
            Due.is("P54 k " + k, Due.log(x), "1x0/" + k);
        }
        for (int less : new int[] {0, 1, 9, 10, 11, 59, 60}) {
            LineBalls x = Due.loaded("box 10 steal " + (less * 100 + 59) / 60 + " 0;ball a at 0 speed -60 weight 1;");
            x.pulse(1);
            Due.is("P54 less by " + less, Due.log(x), "0|/" + less);
        }
        LineBalls x = Due.loaded("box 10;");
        for (int i = 0; i < 10; i++) {
            x.addBall(i, i < 8 ? 0 : i == 8 ? 60 : -60, 1);
        }
        x.pulse(1);
        Due.is("P54 the balls 8 and 9", Due.log(x), "9x8/120");
    }

    private static void promise55() {
        Edge.range("P55 outputByte of nothing", Texts.NO_ELEMENT, Edge::fresh, 0, -1, (x, index) -> x.outputByte(index));
        Edge.range("P55 outputByte of a log", Texts.NO_ELEMENT, Edge::busy, 0, Due.output(Edge.busy()).length() - 1,
                (x, index) -> x.outputByte(index));
        Edge.range("P55 outputByte of a line", Texts.NO_ELEMENT, Edge::full, 0, 19, (x, index) -> x.outputByte(index));
        Edge.range("P55 outputByte of 200", Texts.NO_ELEMENT, () -> {
            LineBalls x = Due.loaded("box 200;");
            x.writeLine();
            return x;
        }, 0, 199, (x, index) -> x.outputByte(index));
        // Behind a shorter text the rest of a longer one is not told.
        Edge.range("P55 outputByte of 5 in place of 20", Texts.NO_ELEMENT, () -> {
            LineBalls x = Edge.full();
            Due.load(x, "box 10;ball a at 0 speed 0 weight 1;");
            x.writeBalls();
            return x;
        }, 0, 4, (x, index) -> x.outputByte(index));
        Edge.range("P55 outputByte of nothing in place of 20", Texts.NO_ELEMENT, () -> {
            LineBalls x = Edge.full();
            Due.load(x, "box 10;");
            x.writeLog();
            return x;
        }, 0, -1, (x, index) -> x.outputByte(index));
        LineBalls x = Due.loaded("box 10;post 2 steal 0;ball a at 1 speed -9 weight 1;");
        x.writeBalls();
        Due.is("P55 bytes of 0@1:-9", x.outputByte(0) + "," + x.outputByte(1) + "," + x.outputByte(2) + "," + x.outputByte(3)
                + "," + x.outputByte(4) + "," + x.outputByte(5), "48,64,49,58,45,57");
        x.writeLine();
        Due.is("P55 bytes of .0#", x.outputByte(0) + "," + x.outputByte(1) + "," + x.outputByte(2), "46,48,35");
        LineBalls y = Due.loaded(Texts.ROW);
        y.pulse(1);
        y.removeBall(0);
        y.writeLog();
        Due.is("P55 bytes of 0x?/120 1", x.property(1) + "," + y.outputByte(1) + "," + y.outputByte(2) + "," + y.outputByte(3)
                + "," + y.outputByte(7), "1,120,63,47,32");
        LineBalls z = Edge.withLog(1);
        z.writeLog();
        Due.is("P55 byte of a post", z.outputByte(1), 124);
    }

    /** What was written stays until the next write, whatever is changed, read or undone. */
    private static void promise55Stays() {
        LineBalls x = Edge.busy();
        String written = Due.line(x);
        x.pulse(600);
        x.removeBall(0);
        x.restore(0);
        x.undo();
        Due.load(x, "box 10;");
        Due.load(x, "box 9;");
        Due.find(x, "a");
        Due.is("P55 what was written", Due.output(x), written);
        for (Edge.Maker maker : new Edge.Maker[] {Edge::busy, Edge::full}) {
            Edge.asks("P55 outputByte(0)", maker, y -> y.outputByte(0));
        }
    }

    private static void writesChangeTheOutputAlone() {
        Edge.Call[] writes = {x -> x.writeLine(), x -> x.writeBalls(), x -> x.writeLog()};
        for (Edge.Maker maker : ALL) {
            for (Edge.Call write : writes) {
                LineBalls x = maker.make();
                LineBalls y = maker.make();
                write.on(x);
                Due.is("P52 P53 P54 the rest stays", Edge.behind(x), Edge.behind(y));
                LineBalls z = maker.make();
                LineBalls u = maker.make();
                write.on(z);
                String[] told = Edge.told(z).split(" out ");
                String[] due = Edge.told(u).split(" out ");
                Due.is("P52 P53 P54 what is told stays", told[0], due[0]);
                Due.is("P52 P53 P54 the input stays", z.property(0), u.property(0));
            }
        }
    }
}
