/** Promises 52 to 55: the output buffer. */
public final class OutputTests {
    public static void main(String[] args) {
        writeLine();
        writeBalls();
        writeLog();
        writeLogOfRemovedBalls();
        writeLogLong();
        outputByte();
        Due.finish();
    }

    // 52
    private static void writeLine() {
        LineBalls x = Due.loaded(Texts.THREE);
        Due.is("writeLine", x.writeLine(), 10);
        Due.is("line", Due.output(x), "..0.#1#2..");
        LineBalls y = Due.loaded("box 200;");
        for (int i = 0; i < 10; i++) {
            y.addBall(199 - 20 * i, 0, 1);
        }
        Due.is("writeLine of 200", y.writeLine(), 200);
        String dots = "...................";
        StringBuilder due = new StringBuilder();
        for (int i = 9; i >= 0; i--) {
            due.append(dots).append(i);
        }
        Due.is("line of 200", Due.output(y), due.toString());
    }

    // 53
    private static void writeBalls() {
        Due.is("writeBalls of none", new LineBalls().writeBalls(), 0);
        LineBalls x = Due.loaded("box 200;ball a at 199 speed -60 weight 1;ball b at 0 speed 0 weight 1;"
                + "ball c at 100 speed 7 weight 1;ball d at 99 speed -7 weight 1;ball e at 10 speed 60 weight 1;");
        String due = "1@0:0 4@10:60 3@99:-7 2@100:7 0@199:-60";
        Due.is("writeBalls", x.writeBalls(), due.length());
        Due.is("balls", Due.output(x), due);
    }

    // 54
    private static void writeLog() {
        LineBalls x = Due.loaded(Texts.TWO);
        x.writeBalls();
        Due.is("writeLog of nothing", x.writeLog(), 0);
        Due.is("nothing", Due.output(x), "");
        x.pulse(6);
        Due.is("writeLog", x.writeLog(), 12);
        Due.is("log", Due.output(x), "0x1/60 0|/30");
    }

    private static void writeLogOfRemovedBalls() {
        LineBalls x = Due.loaded("box 10 steal 10 0;ball a at 0 speed -60 weight 1;ball b at 4 speed 60 weight 1;"
                + "ball c at 5 speed -60 weight 1;");
        x.pulse(1);
        Due.is("log", Due.log(x), "0|/6 2x1/120");
        x.removeBall(0);
        Due.is("the bounce of a removed one", Due.log(x), "?|/6 1x0/120");
        x.removeBall(1);
        Due.is("a removed mover", Due.log(x), "?|/6 ?x0/120");
        x.undo();
        x.removeBall(0);
        Due.is("a removed other", Due.log(x), "?|/6 0x?/120");
        x.removeBall(0);
        Due.is("both removed", Due.log(x), "?|/6 ?x?/120");
        x.addBall(3, 0, 1);
        Due.is("one added later is not in it", Due.log(x), "?|/6 ?x?/120");
    }

    private static void writeLogLong() {
        LineBalls x = Due.loaded("box 10;post 1 steal 50;post 3 steal 0;ball a at 2 speed 60 weight 1;");
        x.pulse(2);
        x.setSteal(0, 0);
        x.kick(0, 60);
        x.pulse(9);
        Due.is("ten of eleven", Due.log(x), "0|/30 0|/0 0|/0 0|/0 0|/0 0|/0 0|/0 0|/0 0|/0 0|/0");
        x.pulse(1);
        Due.is("ten of twelve", Due.log(x), "0|/0 0|/0 0|/0 0|/0 0|/0 0|/0 0|/0 0|/0 0|/0 0|/0");
        x.pulse(100);
        Due.is("ten of more than 40", Due.log(x).length(), 49);
    }

    // 55
    private static void outputByte() {
        LineBalls x = Due.loaded(Texts.THREE);
        Due.refuses("outputByte(0) of nothing", x, Texts.NO_ELEMENT, () -> x.outputByte(0));
        x.writeLine();
        Due.is("a dot", x.outputByte(0), 46);
        Due.is("a ball", x.outputByte(2), 48);
        Due.is("a post", x.outputByte(4), 35);
        Due.is("the last one", x.outputByte(9), 46);
        Due.refuses("outputByte(10)", x, Texts.NO_ELEMENT, () -> x.outputByte(10));
        Due.refuses("outputByte(-1)", x, Texts.NO_ELEMENT, () -> x.outputByte(-1));
        Due.refuses("outputByte(most)", x, Texts.NO_ELEMENT, () -> x.outputByte(Texts.MOST));
        x.kick(0, 1);
        x.removeBall(0);
        Due.is("what was written stays", x.outputByte(2), 48);
        x.writeLog();
        Due.refuses("outputByte(0) of an empty log", x, Texts.NO_ELEMENT, () -> x.outputByte(0));
    }
}
