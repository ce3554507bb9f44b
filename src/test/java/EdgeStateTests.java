/** The boundaries of what is told: promises 8 to 21 and 35 to 37. */
public final class EdgeStateTests {
    private static final Edge.Maker[] ALL = {Edge::fresh, Edge::busy, Edge::full};

    public static void main(String[] args) {
        promise8();
        promise8Log();
        promise9();
        promise9Counts();
        promise10();
        promise11();
        promise12();
        promise13();
        promise14();
        promise15();
        promise16();
        promise17();
        promise17Removed();
        promise18();
        promise18Long();
        promise18SinceLoad();
        promise19();
        promise20();
        promise21();
        promise35();
        promise36();
        promise37();
        asksChangeNothing();
        Due.finish();
    }

    private static void promise8() {
        int[][] due = {{10, 0, 0, 0, 0, 0, 0}, {12, 3, 2, 3, 3, 1, 11}, {20, 10, 4, 80, 40, 1, 84}};
        for (int i = 0; i < 3; i++) {
            LineBalls x = ALL[i].make();
            for (int what = 0; what <= 6; what++) {
                Due.is("P8 property(" + what + ")", x.property(what), due[i][what]);
            }
            Edge.range("P8 property", Texts.ARGUMENT, ALL[i], 0, 6, (y, what) -> y.property(what));
        }
        LineBalls x = Edge.withBalls(10);
        Due.is("P8 all rest", x.property(5), 10);
        for (int i = 0; i < 10; i++) {
            x.setWeight(i, 20);
            x.kick(i, i % 2 == 0 ? 1 : -1);
            Due.is("P8 balls with the speed 0", x.property(5), 9 - i);
        }
        Due.is("P8 the greatest sum of weights", x.property(6), 200);
        for (int i = 9; i >= 0; i--) {
            Due.is("P8 balls", x.property(1), i + 1);
            x.removeBall(0);
        }
        Due.is("P8 no ball", x.property(1) + "," + x.property(5) + "," + x.property(6), "0,0,0");
        Due.is("P8 the most cells", Due.loaded("box 200;").property(0), 200);
        LineBalls y = new LineBalls();
        y.pulse(1);
        y.pulse(600);
        y.tick(50);
        Due.is("P8 the time in pulses", y.property(3), 3601);
    }

    private static void promise8Log() {
        for (int entries : new int[] {0, 1, 39, 40, 41, 79, 80, 81, 200}) {
            Due.is("P8 entries of the log behind " + entries, Edge.withLog(entries).property(4), Math.min(entries, 40));
        }
    }

    private static void promise9() {
        Edge.needsBall("P9 ball(.., 0)", (x, ball) -> x.ball(ball, 0));
        Edge.range("P9 ball(0, ..)", Texts.ARGUMENT, Edge::busy, 0, 7, (x, what) -> x.ball(0, what));
        Edge.range("P9 ball(9, ..)", Texts.ARGUMENT, Edge::full, 0, 7, (x, what) -> x.ball(9, what));
        Edge.refuses("P9 ball(3, 8)", Texts.INDEX, Edge::busy, x -> x.ball(3, 8));
        Edge.refuses("P9 ball(-1, -1)", Texts.INDEX, Edge::full, x -> x.ball(-1, -1));
        Edge.refuses("P9 ball(0, 8) without balls", Texts.INDEX, Edge::fresh, x -> x.ball(0, 8));
        // What it has saved goes from 0 to 59.
        LineBalls x = Due.loaded("box 200;ball a at 0 speed 59 weight 1;ball b at 190 speed 1 weight 20;");
        for (int pulses = 1; pulses <= 120; pulses++) {
            x.pulse(1);
            Due.is("P9 T2 saved with 59", x.ball(0, 3), 59 * pulses % 60);
            Due.is("P9 T2 saved with 1", x.ball(1, 3), pulses % 60);
            Due.is("P9 T2 cells that it went with 59", x.ball(0, 4), 59 * pulses / 60);
            Due.is("P9 T2 cells that it went with 1", x.ball(1, 4), pulses / 60);
        }
        LineBalls y = Due.loaded("box 10;ball a at 5 speed 59 weight 1;");
        y.pulse(1);
        y.kick(0, 1);
        y.pulse(1);
        Due.is("P9 T2 59 and 60 is 60 and 59", y.ball(0, 3) + "," + y.ball(0, 4), "59,1");
    }

    /** Hits in its own turn and in the other's, bounces at a wall and at a post, waits. */
    private static void promise9Counts() {
        LineBalls x = Due.loaded("box 10;post 6 steal 0;ball a at 0 speed -60 weight 1;ball b at 5 speed 60 weight 1;");
        x.pulse(1);
        Due.is("P9 a bounce at a wall", x.ball(0, 6), 1);
        Due.is("P9 a bounce at a post", x.ball(1, 6), 1);
        x.pulse(2);
        Due.is("P9 no hit yet", x.ball(0, 5) + x.ball(1, 5), 0);
        Due.is("P9 now beside one another", Due.balls(x), "0@2:60 1@3:-60");
        x.pulse(1);
        Due.is("P9 a hit in its own turn", x.ball(1, 5), 1);
        Due.is("P9 a hit in the other's turn", x.ball(0, 5), 1);
        Due.is("P9 no bounce and no wait by that", x.ball(0, 6) + x.ball(1, 6) + x.ball(0, 7) + x.ball(1, 7), 2);
        LineBalls y = Due.loaded("box 10;ball a at 4 speed 0 weight 1;ball b at 5 speed -30 weight 1;");
        y.pulse(1);
        y.kick(0, -30);
        y.pulse(1);
        Due.is("P9 the one that waited, as vl is vr", y.ball(1, 7), 1);
        Due.is("P9 the one that it waited for", y.ball(0, 7), 0);
        y.kick(0, -1);
        y.place(1, 5);
        y.place(0, 4);
        Due.is("P9 place is no way", y.ball(0, 4) + y.ball(1, 4), 0);
    }

    private static void promise10() {
        Edge.range("P10 at of 10 cells", Texts.INDEX, Edge::fresh, 0, 9, (x, cell) -> x.at(cell));
        Edge.range("P10 at of 12 cells", Texts.INDEX, Edge::busy, 0, 11, (x, cell) -> x.at(cell));
        Edge.range("P10 at of 20 cells", Texts.INDEX, Edge::full, 0, 19, (x, cell) -> x.at(cell));
        Edge.range("P10 at of 200 cells", Texts.INDEX, () -> Due.loaded("box 200;"), 0, 199, (x, cell) -> x.at(cell));
        LineBalls x = Due.loaded("box 200;ball a at 199 speed 0 weight 1;ball b at 0 speed 0 weight 1;post 1 steal 0;");
        Due.is("P10 the first cell", x.at(0), 1);
        Due.is("P10 the last cell", x.at(199), 0);
        Due.is("P10 a post", x.at(1), -1);
        Due.is("P10 a free cell", x.at(198), -1);
    }

    private static void promise11() {
        Edge.range("P11 post(.., 0) without posts", Texts.INDEX, Edge::fresh, 0, -1, (x, post) -> x.post(post, 0));
        Edge.range("P11 post(.., 0) of two", Texts.INDEX, Edge::busy, 0, 1, (x, post) -> x.post(post, 0));
        Edge.range("P11 post(.., 0) of four", Texts.INDEX, Edge::full, 0, 3, (x, post) -> x.post(post, 0));
        Edge.refusesAlways("P11 post(-2, 0)", Texts.INDEX, x -> x.post(-2, 0));
        Edge.range("P11 post(1, ..)", Texts.ARGUMENT, Edge::busy, 0, 2, (x, what) -> x.post(1, what));
        Edge.range("P11 post(3, ..)", Texts.ARGUMENT, Edge::full, 0, 2, (x, what) -> x.post(3, what));
        Edge.refuses("P11 post(2, 3)", Texts.INDEX, Edge::busy, x -> x.post(2, 3));
        Edge.refuses("P11 post(-1, 3)", Texts.INDEX, Edge::full, x -> x.post(-1, 3));
        Edge.refuses("P11 post(0, -1) without posts", Texts.INDEX, Edge::fresh, x -> x.post(0, -1));
        LineBalls x = Due.loaded("box 10;post 9 steal 100;post 0 steal 0;post 4 steal 50;post 6 steal 1;"
                + "ball a at 5 speed 60 weight 1;ball b at 1 speed -60 weight 1;ball c at 8 speed 0 weight 1;");
        x.pulse(1);
        Due.is("P11 the posts as they came", posts(x), "9,100,0 0,0,1 4,50,0 6,1,1 ");
        x.pulse(3);
        Due.is("P11 bounces at both sides of a post", posts(x), "9,100,0 0,0,1 4,50,2 6,1,2 ");
        LineBalls y = Edge.withLog(81);
        Due.is("P11 bounces, more than the log has", y.post(0, 2) + "," + y.post(1, 2), "40,41");
    }

    private static String posts(LineBalls x) {
        StringBuilder text = new StringBuilder();
        for (int i = 0; i < x.property(2); i++) {
            text.append(x.post(i, 0)).append(',').append(x.post(i, 1)).append(',').append(x.post(i, 2)).append(' ');
        }
        return text.toString();
    }

    private static void promise12() {
        for (Edge.Maker maker : ALL) {
            Edge.range("P12 wall(false, ..)", Texts.ARGUMENT, maker, 0, 1, (x, what) -> x.wall(false, what));
            Edge.range("P12 wall(true, ..)", Texts.ARGUMENT, maker, 0, 1, (x, what) -> x.wall(true, what));
        }
        LineBalls x = Due.loaded("box 10 steal 0 100;ball a at 0 speed -60 weight 1;ball b at 9 speed 60 weight 1;");
        Due.is("P12 no bounce yet", x.wall(false, 1) + x.wall(true, 1), 0);
        x.pulse(1);
        Due.is("P12 the left wall", x.wall(false, 0) + "," + x.wall(false, 1), "0,1");
        Due.is("P12 the right wall", x.wall(true, 0) + "," + x.wall(true, 1), "100,1");
        Due.is("P12 what they stole", Due.balls(x), "0@0:60 1@9:0");
        x.place(1, 5);
        x.pulse(4);
        Due.is("P12 others hit no wall", x.wall(false, 1) + x.wall(true, 1), 2);
    }

    private static void promise13() {
        Edge.range("P13 placed without balls", Texts.NO_ELEMENT, Edge::fresh, 0, -1, (x, place) -> x.placed(place));
        Edge.range("P13 placed of 3 balls", Texts.NO_ELEMENT, Edge::busy, 0, 2, (x, place) -> x.placed(place));
        Edge.range("P13 placed of 10 balls", Texts.NO_ELEMENT, Edge::full, 0, 9, (x, place) -> x.placed(place));
        LineBalls x = new LineBalls();
        for (int i = 0; i < 10; i++) {
            x.addBall(9 - i, 0, 1);
        }
        for (int place = 0; place < 10; place++) {
            Due.is("P13 placed(" + place + ")", x.placed(place), 9 - place);
        }
        x.removeBall(9);
        Due.is("P13 the lowest one removed", x.placed(0), 8);
        Due.is("P13 the highest one", x.placed(8), 0);
        x.removeBall(0);
        Due.is("P13 the highest one removed", x.placed(7), 0);
        LineBalls y = Edge.withBalls(2);
        y.place(0, 9);
        Due.is("P13 behind place", y.placed(0) * 10 + y.placed(1), 10);
        y.place(0, 0);
        Due.is("P13 behind place back", y.placed(0) * 10 + y.placed(1), 1);
    }

    private static void neighbours(String text, int ball, int left, int right) {
        LineBalls x = Due.loaded(text);
        Due.is("P14 left neighbour of " + ball + " in " + Due.line(x), x.neighbour(ball, false), left);
        Due.is("P14 right neighbour of " + ball + " in " + Due.line(x), x.neighbour(ball, true), right);
    }

    private static void promise14() {
        Edge.needsBall("P14 neighbour(.., false)", (x, ball) -> x.neighbour(ball, false));
        Edge.needsBall("P14 neighbour(.., true)", (x, ball) -> x.neighbour(ball, true));
        String two = "ball a at 0 speed 0 weight 1;ball b at 9 speed 0 weight 1;";
        neighbours("box 10;ball a at 0 speed 0 weight 1;", 0, -1, -1);
        neighbours("box 10;ball a at 9 speed 0 weight 1;", 0, -1, -1);
        neighbours("box 10;" + two, 0, -1, 1);
        neighbours("box 10;" + two, 1, 0, -1);
        neighbours("box 10;" + two + "post 1 steal 0;", 0, -1, -1);
        neighbours("box 10;" + two + "post 1 steal 0;", 1, -1, -1);
        neighbours("box 10;" + two + "post 8 steal 0;", 0, -1, -1);
        neighbours("box 10;" + two + "post 8 steal 0;", 1, -1, -1);
        neighbours("box 10;" + two + "ball c at 1 speed 0 weight 1;", 0, -1, 2);
        neighbours("box 10;" + two + "ball c at 1 speed 0 weight 1;", 2, 0, 1);
        neighbours("box 10;" + two + "ball c at 8 speed 0 weight 1;", 1, 2, -1);
        neighbours("box 10;" + two + "ball c at 8 speed 0 weight 1;", 2, 0, 1);
        // A post behind the neighbour is nothing between them.
        neighbours("box 10;ball a at 3 speed 0 weight 1;ball b at 4 speed 0 weight 1;post 2 steal 0;post 5 steal 0;", 0, -1, 1);
        neighbours("box 10;ball a at 3 speed 0 weight 1;ball b at 4 speed 0 weight 1;post 2 steal 0;post 5 steal 0;", 1, 0, -1);
        neighbours("box 200;ball a at 0 speed 0 weight 1;ball b at 199 speed 0 weight 1;", 0, -1, 1);
        neighbours("box 200;ball a at 0 speed 0 weight 1;ball b at 199 speed 0 weight 1;", 1, 0, -1);
    }

    private static void rooms(String text, int ball, int left, int right) {
        LineBalls x = Due.loaded(text);
        Due.is("P15 left room of " + ball + " in " + Due.line(x), x.room(ball, false), left);
        Due.is("P15 right room of " + ball + " in " + Due.line(x), x.room(ball, true), right);
    }

    private static void promise15() {
        Edge.needsBall("P15 room(.., false)", (x, ball) -> x.room(ball, false));
        Edge.needsBall("P15 room(.., true)", (x, ball) -> x.room(ball, true));
        rooms("box 10;ball a at 0 speed 0 weight 1;", 0, 0, 9);
        rooms("box 10;ball a at 9 speed 0 weight 1;", 0, 9, 0);
        rooms("box 10;ball a at 1 speed 0 weight 1;", 0, 1, 8);
        rooms("box 200;ball a at 0 speed 0 weight 1;", 0, 0, 199);
        rooms("box 200;ball a at 199 speed 0 weight 1;", 0, 199, 0);
        rooms("box 200;ball a at 0 speed 0 weight 1;ball b at 199 speed 0 weight 1;", 0, 0, 198);
        rooms("box 200;ball a at 0 speed 0 weight 1;ball b at 199 speed 0 weight 1;", 1, 198, 0);
        rooms("box 10;ball a at 4 speed 0 weight 1;post 3 steal 0;post 5 steal 0;", 0, 0, 0);
        rooms("box 10;ball a at 4 speed 0 weight 1;post 2 steal 0;post 6 steal 0;", 0, 1, 1);
        rooms("box 10;ball a at 4 speed 0 weight 1;ball b at 3 speed 0 weight 1;ball c at 5 speed 0 weight 1;", 0, 0, 0);
        rooms("box 10;ball a at 4 speed 0 weight 1;ball b at 2 speed 0 weight 1;ball c at 6 speed 0 weight 1;", 0, 1, 1);
        rooms("box 10;ball a at 4 speed 0 weight 1;post 0 steal 0;post 9 steal 0;", 0, 3, 4);
    }

    private static void promise16() {
        Edge.needsBall("P16 hits(.., 0)", (x, ball) -> x.hits(ball, 0));
        Edge.range("P16 hits(0, ..) of 3", Texts.INDEX, Edge::busy, 0, 2, (x, ball) -> x.hits(0, ball));
        Edge.range("P16 hits(9, ..) of 10", Texts.INDEX, Edge::full, 0, 9, (x, ball) -> x.hits(9, ball));
        Edge.range("P16 hits(0, ..) of none", Texts.INDEX, Edge::fresh, 0, -1, (x, ball) -> x.hits(0, ball));
        Edge.refuses("P16 hits(3, 3)", Texts.INDEX, Edge::busy, x -> x.hits(3, 3));
        LineBalls x = Edge.full();
        for (int a = 0; a < 10; a++) {
            Due.is("P16 one with itself", x.hits(a, a), 0);
            int sum = 0;
            for (int b = 0; b < 10; b++) {
                Due.is("P16 with one another", x.hits(a, b), x.hits(b, a));
                sum += x.hits(a, b);
            }
            Due.is("P16 all hits of a ball", sum, x.ball(a, 5));
        }
        Due.is("P16 there were some of 0 and 1", x.hits(0, 1) > 0 ? 1 : 0, 1);
        LineBalls y = Due.loaded("box 10;ball a at 4 speed 60 weight 20;ball b at 5 speed 59 weight 1;");
        y.pulse(1);
        Due.is("P16 T2 with k 0, too", y.hits(0, 1) + "," + y.hits(1, 0), "1,1");
        Due.load(y, "box 10;ball a at 4 speed 60 weight 20;ball b at 5 speed 59 weight 1;");
        Due.is("P16 none behind load", y.hits(0, 1), 0);
    }

    private static void promise17() {
        Edge.range("P17 logged(.., 0) of nothing", Texts.INDEX, Edge::fresh, 0, -1, (x, index) -> x.logged(index, 0));
        Edge.range("P17 logged(.., 0) of 3", Texts.INDEX, Edge::busy, 0, 2, (x, index) -> x.logged(index, 0));
        Edge.range("P17 logged(.., 0) of 40", Texts.INDEX, Edge::full, 0, 39, (x, index) -> x.logged(index, 0));
        Edge.range("P17 logged(0, ..)", Texts.ARGUMENT, Edge::busy, 0, 3, (x, what) -> x.logged(0, what));
        Edge.range("P17 logged(39, ..)", Texts.ARGUMENT, Edge::full, 0, 3, (x, what) -> x.logged(39, what));
        Edge.refuses("P17 logged(3, 4)", Texts.INDEX, Edge::busy, x -> x.logged(3, 4));
        Edge.refuses("P17 logged(40, -1)", Texts.INDEX, Edge::full, x -> x.logged(40, -1));
        Edge.refuses("P17 logged(0, 4) of nothing", Texts.INDEX, Edge::fresh, x -> x.logged(0, 4));
        for (int entries : new int[] {1, 39, 40, 41, 79, 80, 81, 121}) {
            int kept = Math.min(entries, 40);
            Edge.range("P17 logged(.., 0) behind " + entries, Texts.INDEX, () -> Edge.withLog(entries), 0, kept - 1,
                    (x, index) -> x.logged(index, 0));
            LineBalls x = Edge.withLog(entries);
            for (int index = 0; index < kept; index++) {
                Due.is("P17 T2 the time ahead of the bounce, " + index + " of " + entries, x.logged(index, 0), entries - 1 - index);
                Due.is("P17 the ball, a post, nothing less", x.logged(index, 1) + "," + x.logged(index, 2) + ","
                        + x.logged(index, 3), "0,-1,0");
            }
        }
    }

    /** Two hits and a bounce: the numbers shift, and are NONE for one that was removed. */
    private static void promise17Removed() {
        String text = "box 12 steal 0 25;ball a at 4 speed 60 weight 1;ball b at 5 speed -60 weight 1;"
                + "ball c at 6 speed -60 weight 1;ball d at 11 speed 60 weight 1;";
        String[] due = {"0:3|-1/15 0:2|1/120 0:1|0/120 ", "0:2|-1/15 0:1|0/120 0:0|-1/120 ", "0:2|-1/15 0:1|-1/120 0:-1|0/120 ",
            "0:2|-1/15 0:-1|1/120 0:1|0/120 ", "0:-1|-1/15 0:2|1/120 0:1|0/120 "};
        String[] written = {"1x0/120 2x1/120 3|/15", "0x?/120 1x0/120 2|/15", "?x0/120 1x?/120 2|/15",
            "1x0/120 ?x1/120 2|/15", "1x0/120 2x1/120 ?|/15"};
        for (int removed = -1; removed < 4; removed++) {
            LineBalls x = Due.loaded(text);
            x.pulse(1);
            // Two hits of left turns come first, then the bounce; the log tells the last one first.
            if (removed >= 0) {
                x.removeBall(removed);
            }
            String told = "";
            for (int index = 0; index < 3; index++) {
                told += x.logged(index, 0) + ":" + x.logged(index, 1) + "|" + x.logged(index, 2) + "/" + x.logged(index, 3) + " ";
            }
            Due.is("P17 without " + removed, told, due[removed + 1]);
            Due.is("P17 P54 without " + removed, Due.log(x), written[removed + 1]);
        }
        LineBalls x = Due.loaded(text);
        x.pulse(1);
        for (int i = 0; i < 4; i++) {
            x.removeBall(0);
        }
        Due.is("P17 P54 all removed", Due.log(x), "?x?/120 ?x?/120 ?|/15");
        Due.is("P17 all removed", x.logged(2, 1) + x.logged(2, 2) + x.logged(0, 1) + x.logged(0, 2), -4);
        Due.is("P17 P8 the entries stay", x.property(4), 3);
        x.addBall(5, 1, 1);
        Due.is("P17 P54 a new ball 0 is none of them", Due.log(x), "?x?/120 ?x?/120 ?|/15");
    }

    private static void promise18() {
        for (Edge.Maker maker : ALL) {
            Edge.range("P18 account", Texts.ARGUMENT, maker, 0, 4, (x, what) -> x.account(what));
        }
        LineBalls x = Edge.withBalls(10);
        Due.is("P18 T3 push and energy at rest", x.account(0) + "," + x.account(1), "0,0");
        for (int i = 0; i < 10; i++) {
            x.setWeight(i, 20);
            x.kick(i, 60);
        }
        Due.is("P18 T3 the greatest push", x.account(0), 12000);
        Due.is("P18 T3 the greatest energy", x.account(1), 720000);
        Due.is("P18 what was pushed", x.account(4), 12000);
        for (int i = 0; i < 10; i++) {
            x.turn(i);
        }
        Due.is("P18 T3 the least push", x.account(0), -12000);
        Due.is("P18 T3 the energy has no sign", x.account(1), 720000);
        Due.is("P18 what was pushed", x.account(4), -12000);
        LineBalls u = Due.loaded("box 10;ball a at 5 speed -7 weight 3;ball b at 6 speed 2 weight 5;");
        u.kick(1, 1);
        Due.is("T3 each account is its own", u.account(0) + "," + u.account(1) + "," + u.account(2) + "," + u.account(3) + ","
                + u.account(4), (-21 + 15) + "," + (147 + 45) + ",0,0,5");
        // Each wall: weight times (speed ahead less speed behind), rounded as the bounce is.
        LineBalls y = Due.loaded("box 10 steal 100 99;ball a at 0 speed -60 weight 20;ball b at 9 speed 60 weight 19;");
        y.pulse(1);
        Due.is("P18 T3 what walls got", y.account(2), 20 * (-60 - 0) + 19 * (60 + 1));
        Due.is("P18 T3 nothing traded by that", y.account(3), 0);
        LineBalls z = Due.loaded("box 10;ball a at 4 speed 60 weight 20;ball b at 5 speed 59 weight 1;");
        z.pulse(1);
        Due.is("P18 T3 nothing traded with k 0", z.account(3), 0);
    }

    /** Five pairs between posts, a hit of each in two pulses: more is traded than an int holds. */
    private static void promise18Long() {
        LineBalls x = Due.loaded("box 14;post 2 steal 0;post 5 steal 0;post 8 steal 0;post 11 steal 0;");
        for (int i = 0; i < 10; i++) {
            x.addBall(i + i / 2, i % 2 == 0 ? 60 : -60, 20);
        }
        for (int i = 0; i < 130; i++) {
            x.tick(50);
        }
        Due.is("P18 traded, as a long", x.account(3), 2400L * x.count(0));
        Due.is("P18 that is more than an int", x.account(3) > Integer.MAX_VALUE ? 1 : 0, 1);
        Due.is("P19 hits", x.count(0), 5 * 130 * 3000 / 2);
        Due.is("P19 bounces", x.count(1), 10 * 130 * 3000 / 2);
        Due.is("P8 the time", x.property(3), 130 * 3000);
        Due.is("P9 its hits", x.ball(9, 5), 130 * 3000 / 2);
        Due.is("P16 hits of a pair", x.hits(8, 9), 130 * 3000 / 2);
    }

    private static void promise18SinceLoad() {
        LineBalls x = Edge.full();
        Due.load(x, "box 10;x");
        Due.is("P18 P19 a text with an error changes none", x.account(2) * x.account(3) * x.account(4) * x.count(0)
                * x.count(1) * x.count(2) * x.count(3) != 0 ? 1 : 0, 1);
        Due.load(x, Texts.TWO);
        for (int what = 2; what <= 4; what++) {
            Due.is("P18 account " + what + " behind load", x.account(what), 0);
        }
        for (int what = 0; what <= 3; what++) {
            Due.is("P19 count " + what + " behind load", x.count(what), 0);
        }
        x.undo();
        Due.is("P18 behind undo", x.account(3), Edge.full().account(3));
        Due.is("P19 behind undo", x.count(3), Edge.full().count(3));
    }

    private static void promise19() {
        for (Edge.Maker maker : ALL) {
            Edge.range("P19 count", Texts.ARGUMENT, maker, 0, 3, (x, what) -> x.count(what));
        }
        LineBalls x = Edge.full();
        int[] sums = new int[4];
        for (int ball = 0; ball < 10; ball++) {
            sums[0] += x.ball(ball, 5);
            sums[1] += x.ball(ball, 6);
            sums[2] += x.ball(ball, 7);
            sums[3] += x.ball(ball, 4);
        }
        Due.is("P19 a hit has two balls", 2 * x.count(0), sums[0]);
        for (int what = 1; what <= 3; what++) {
            Due.is("P19 count " + what, x.count(what), sums[what]);
        }
        int before = x.count(0);
        x.removeBall(0);
        Due.is("P19 hits of a removed ball stay", x.count(0), before);
        LineBalls y = new LineBalls();
        y.tick(50);
        Due.is("P19 nothing without balls", y.count(0) + y.count(1) + y.count(2) + y.count(3), 0);
    }

    private static void promise20() {
        Due.is("P20 without balls", new LineBalls().fastest(), -1);
        for (int count = 1; count <= 10; count++) {
            LineBalls x = Edge.withBalls(count);
            Due.is("P20 all rest: the lowest of " + count, x.fastest(), 0);
            x.kick(count - 1, -1);
            Due.is("P20 the last one of " + count, x.fastest(), count - 1);
            x.kick(0, 1);
            Due.is("P20 the lowest of two as fast", x.fastest(), 0);
            x.kick(count - 1, count == 1 ? 0 : -1);
            Due.is("P20 faster by 1", x.fastest(), count - 1);
        }
        LineBalls y = Edge.withBalls(3);
        y.kick(1, -60);
        y.kick(2, 60);
        Due.is("P20 -60 and 60", y.fastest(), 1);
        y.removeBall(1);
        Due.is("P20 behind removeBall", y.fastest(), 1);
        y.removeBall(1);
        y.removeBall(0);
        Due.is("P20 without balls any more", y.fastest(), -1);
        for (Edge.Maker maker : ALL) {
            Edge.asks("P20 fastest()", maker, x -> x.fastest());
        }
    }

    private static void promise21() {
        Due.is("P21 without balls", new LineBalls().going(true) + "," + new LineBalls().going(false), "0,0");
        LineBalls x = Edge.withBalls(10);
        Due.is("P21 all rest", x.going(true) + "," + x.going(false), "0,0");
        for (int i = 0; i < 10; i++) {
            x.kick(i, 1);
            Due.is("P21 with 1", x.going(true) + "," + x.going(false), (1 << i) + ",0");
            x.kick(i, -2);
            Due.is("P21 with -1", x.going(true) + "," + x.going(false), "0," + (1 << i));
            x.kick(i, 1);
        }
        for (int i = 0; i < 10; i++) {
            x.kick(i, 60);
        }
        Due.is("P21 all to the right", x.going(true) + "," + x.going(false), "1023,0");
        for (int i = 0; i < 10; i++) {
            x.turn(i);
        }
        Due.is("P21 all to the left", x.going(true) + "," + x.going(false), "0,1023");
        for (Edge.Maker maker : ALL) {
            Edge.asks("P21 going(true)", maker, y -> y.going(true));
            Edge.asks("P21 going(false)", maker, y -> y.going(false));
        }
    }

    private static void promise35() {
        Due.is("P35 without balls", new LineBalls().meanSpeed(), 0.0);
        Due.is("P35 at rest", Edge.withBalls(10).meanSpeed(), 0.0);
        LineBalls x = Edge.withBalls(3);
        x.kick(0, -1);
        Due.is("P35 one third", x.meanSpeed(), 1.0 / 3.0);
        x.kick(1, 1);
        Due.is("P35 without signs", x.meanSpeed(), 2.0 / 3.0);
        LineBalls y = Edge.withBalls(10);
        for (int i = 0; i < 10; i++) {
            y.kick(i, i % 2 == 0 ? 60 : -60);
        }
        Due.is("P35 the greatest", y.meanSpeed(), 60.0);
        y.kick(0, -1);
        Due.is("P35 nearly that", y.meanSpeed(), 599.0 / 10.0);
        while (y.property(1) > 0) {
            y.removeBall(0);
        }
        Due.is("P35 all removed", y.meanSpeed(), 0.0);
        for (Edge.Maker maker : ALL) {
            Edge.asks("P35 meanSpeed()", maker, z -> z.meanSpeed());
        }
    }

    private static void promise36() {
        Edge.needsBall("P36 share", (x, ball) -> x.share(ball));
        Edge.asks("P36 share(9)", Edge::full, x -> x.share(9));
        LineBalls x = Edge.withBalls(3);
        Due.is("P36 no energy", x.share(0), 0.0f);
        x.kick(0, -1);
        Due.is("P36 all of it", x.share(0), 1.0f);
        Due.is("P36 none of it", x.share(1), 0.0f);
        x.kick(1, 1);
        x.kick(2, 1);
        Due.is("P36 a third, as a float", x.share(2), 1.0f / 3.0f);
        LineBalls y = Edge.withBalls(10);
        for (int i = 0; i < 10; i++) {
            y.setWeight(i, 20);
            y.kick(i, -60);
        }
        Due.is("P36 a tenth of the most", y.share(9), 72000.0f / 720000.0f);
        y.stop();
        Due.is("P36 no energy any more", y.share(9), 0.0f);
    }

    private static void promise37() {
        Due.is("P37 without balls", new LineBalls().middle(), -1.0);
        Due.is("P37 cell 0", Edge.withBalls(1).middle(), 0.0);
        Due.is("P37 cell 199", Due.loaded("box 200;ball a at 199 speed 0 weight 20;").middle(), 199.0);
        Due.is("P37 ten balls", Edge.withBalls(10).middle(), 4.5);
        LineBalls x = Edge.withBalls(2);
        x.setWeight(0, 20);
        Due.is("P37 weighed", x.middle(), 1.0 / 21.0);
        x.setWeight(1, 20);
        Due.is("P37 weighed alike", x.middle(), 0.5);
        x.removeBall(0);
        Due.is("P37 cell 1", x.middle(), 1.0);
        x.removeBall(0);
        Due.is("P37 without balls any more", x.middle(), -1.0);
        for (Edge.Maker maker : ALL) {
            Edge.asks("P37 middle()", maker, y -> y.middle());
        }
    }

    private static void asksChangeNothing() {
        for (Edge.Maker maker : ALL) {
            for (int i = 0; i <= 6; i++) {
                int what = i;
                Edge.changesNothing("P8 property(" + what + ")", maker, x -> x.property(what));
                Edge.changesNothing("P9 ball(0, " + what + ")", maker, x -> x.ball(0, what));
                Edge.changesNothing("P11 post(0, " + what + ")", maker, x -> x.post(0, what));
                Edge.changesNothing("P12 wall(true, " + what + ")", maker, x -> x.wall(true, what));
                Edge.changesNothing("P17 logged(0, " + what + ")", maker, x -> x.logged(0, what));
                Edge.changesNothing("P18 account(" + what + ")", maker, x -> x.account(what));
                Edge.changesNothing("P19 count(" + what + ")", maker, x -> x.count(what));
            }
            Edge.changesNothing("P5 errorCode()", maker, x -> x.errorCode());
            Edge.changesNothing("P6 errorPosition()", maker, x -> x.errorPosition());
            Edge.changesNothing("P10 at(5)", maker, x -> x.at(5));
            Edge.changesNothing("P13 placed(0)", maker, x -> x.placed(0));
            Edge.changesNothing("P14 neighbour(0, true)", maker, x -> x.neighbour(0, true));
            Edge.changesNothing("P15 room(0, true)", maker, x -> x.room(0, true));
            Edge.changesNothing("P16 hits(0, 1)", maker, x -> x.hits(0, 1));
        }
    }
}
