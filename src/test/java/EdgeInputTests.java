import java.util.List;

/** The boundaries of the input: section 1 of the terms and promises 1 to 7. */
public final class EdgeInputTests {
    private static final List<String> KEYWORDS = List.of("box", "steal", "post", "ball", "at", "speed", "weight");
    private static final String FOUR_POSTS = "post 0 steal 0;post 1 steal 0;post 2 steal 0;post 3 steal 0;";

    public static void main(String[] args) {
        tokenBytes();
        numbersOfAnyLength();
        names();
        speeds();
        boxes();
        boxOnlyFirst();
        posts();
        balls();
        counts();
        smallestCode();
        firstToken();
        tokenThatCannotStand();
        endOfText();
        promise1();
        promise1Buffers();
        promise2();
        promise2Order();
        promise3();
        promise4();
        promise4Failed();
        promise5And6();
        lastTokenOfAFullBuffer();
        promise7();
        Due.finish();
    }

    /** The text has one '^', which is left out, ahead of the token that has the error. */
    private static void fault(String what, String marked, int code) {
        int position = marked.indexOf('^');
        String text = marked.substring(0, position) + marked.substring(position + 1);
        LineBalls x = new LineBalls();
        Due.is(what + ": load of " + text, Due.load(x, text), LineBalls.PARSE_ERROR);
        Due.is(what + ": code and position of " + text, x.errorCode() + " at " + x.errorPosition(), code + " at " + position);
    }

    private static LineBalls fits(String what, String text, int balls) {
        LineBalls x = new LineBalls();
        Due.is(what + ": load of " + text, Due.load(x, text), balls);
        Due.is(what + ": code and position of " + text, x.errorCode() + " at " + x.errorPosition(), "0 at -1");
        return x;
    }

    // ---- section 1: tokens ----

    /** What each of the 256 bytes is, between statements, in a number, in a name and in a keyword. */
    private static void tokenBytes() {
        for (char one = 0; one < 256; one++) {
            String what = "T1 byte " + (int) one;
            boolean between = one == 32 || one == 10;
            boolean digit = one >= 48 && one <= 57;
            boolean letter = one >= 97 && one <= 122;
            if (between) {
                fits(what, "box 10;" + one + "post 1 steal 0;", 0);
            } else {
                fault(what, "box 10;^" + one + "post 1 steal 0;", 1);
            }
            if (digit) {
                Due.is(what + " in a number", fits(what, "box 1" + one + "0;", 0).property(0), 100 + 10 * (one - 48));
            } else {
                fault(what, "box ^1" + one + "0;", 2);
            }
            if (one == 't') {
                fault(what, "box 10;ball ^at at 1 speed 0 weight 1;", 1);
            } else if (letter || between) {
                fits(what, "box 10;ball a" + one + " at 1 speed 0 weight 1;", 1);
            } else {
                fault(what, "box 10;ball a^" + one + " at 1 speed 0 weight 1;", 1);
            }
            fault(what, "^bo" + one + "x 10;", 1);
        }
    }

    /** Numbers of hundreds of digits, and those that an int or a long would wrap round into the range. */
    private static void numbersOfAnyLength() {
        String zeros = "0".repeat(300);
        Due.is("T1 cells", fits("T1", "box " + zeros + "200;", 0).property(0), 200);
        fault("T1", "box ^" + zeros + "201;", 2);
        Due.is("T1 steals", fits("T1", "box 10 steal " + zeros + " 1" + ";", 0).wall(true, 0), 1);
        fault("T1", "box ^" + "9".repeat(300) + ";", 2);
        fault("T1", "box ^1" + zeros + ";", 2);
        for (String number : new String[] {"2147483647", "2147483648", "4294967295", "4294967296", "4294967306",
            "9223372036854775807", "9223372036854775808", "18446744073709551616", "18446744073709551626",
            "999999", "1000000", "1000001", "10000000", "256", "266", "65546"}) {
            fault("T1", "box ^" + number + ";", 2);
            fault("T1", "box 10 steal ^" + number + " 0;", 2);
            fault("T1", "box 10 steal 0 ^" + number + ";", 2);
            fault("T1", "box 10;post ^" + number + " steal 0;", 2);
            fault("T1", "box 10;post 1 steal ^" + number + ";", 2);
            fault("T1", "box 10;ball a at ^" + number + " speed 0 weight 1;", 2);
            fault("T1", "box 10;ball a at 9 speed ^" + number + " weight 1;", 2);
            fault("T1", "box 10;ball a at 9 speed -^" + number + " weight 1;", 2);
            fault("T1", "box 10;ball a at 9 speed 0 weight ^" + number + ";", 2);
        }
    }

    private static void names() {
        for (String name : new String[] {"a", "z", "ab", "abcdef", "zzzzzz", "bo", "boxx", "xbox", "steals", "posts", "pos",
            "balls", "t", "att", "spee", "speeds", "weigh"}) {
            LineBalls x = fits("T1", "box 10;ball " + name + " at 1 speed 0 weight 1;", 1);
            Due.is("T1 find " + name, Due.find(x, name), 0);
        }
        for (String name : new String[] {"abcdefg", "zzzzzzz", "weights", "a".repeat(27), "a".repeat(200)}) {
            fault("T1", "box 10;ball ^" + name + " at 1 speed 0 weight 1;", 1);
        }
        for (String word : KEYWORDS) {
            fault("T1", "box 10;ball ^" + word + " at 1 speed 0 weight 1;", 1);
        }
        String one = "box 10;ball abcdef at 1 speed 0 weight 1;";
        fault("T1 code 3", one + "ball ^abcdef at 1 speed 0 weight 1;", 3);
        for (String name : new String[] {"abcde", "abcdeg", "bcdefg", "a", "f", "abcdee"}) {
            fits("T1 another name", one + "ball " + name + " at 2 speed 0 weight 1;", 2);
        }
        // The name of the first, of the ninth, and none of them.
        fault("T1 code 3", "box 10;" + ballsOf(9) + "ball ^na at 9 speed 0 weight 1;", 3);
        fault("T1 code 3", "box 10;" + ballsOf(9) + "ball ^ni at 9 speed 0 weight 1;", 3);
        fits("T1 ten names", "box 10;" + ballsOf(9) + "ball nj at 9 speed 0 weight 1;", 10);
    }

    /** Balls with the names na, nb and so on, from cell 0 on. */
    private static String ballsOf(int count) {
        StringBuilder text = new StringBuilder();
        for (int i = 0; i < count; i++) {
            text.append("ball n").append((char) ('a' + i)).append(" at ").append(i).append(" speed 0 weight 1;");
        }
        return text.toString();
    }

    private static void speeds() {
        for (int pace = 0; pace <= 60; pace++) {
            Due.is("T1 SPEED", fits("T1", "box 10;ball a at 1 speed " + pace + " weight 1;", 1).ball(0, 1), pace);
            Due.is("T1 SPEED", fits("T1", "box 10;ball a at 1 speed -" + pace + " weight 1;", 1).ball(0, 1), -pace);
        }
        Due.is("T1 '-' and number apart", fits("T1", "box 10;ball a at 1 speed -\n 60weight 1;", 1).ball(0, 1), -60);
        for (int pace : new int[] {61, 62, 100, 120, 255, 256}) {
            fault("T1 SPEED", "box 10;ball a at 1 speed ^" + pace + " weight 1;", 2);
            fault("T1 SPEED", "box 10;ball a at 1 speed -^" + pace + " weight 1;", 2);
            fault("T1 SPEED", "box 10;ball a at 1 speed -  ^" + pace + " weight 1;", 2);
        }
        fault("T1 SPEED", "box 10;ball a at 1 speed -^-1 weight 1;", 1);
        fault("T1 SPEED", "box 10;ball a at 1 speed 1^-1 weight 1;", 1);
        fault("T1 SPEED", "box 10;ball a at 1 speed -^weight 1;", 1);
        fault("T1 SPEED", "box 10;ball a at 1 speed -^;", 1);
        fault("T1 SPEED", "box 10;ball a at 1 speed -^", 1);
        fault("T1 SPEED", "box 10;ball a at 1 speed ^+1 weight 1;", 1);
    }

    private static void boxes() {
        for (int cells = 0; cells <= 260; cells++) {
            if (cells >= 10 && cells <= 200) {
                Due.is("T1 cells", fits("T1", "box " + cells + ";", 0).property(0), cells);
            } else {
                fault("T1 cells", "box ^" + cells + ";", 2);
            }
        }
        for (int steals = 0; steals <= 130; steals++) {
            if (steals <= 100) {
                LineBalls x = fits("T1", "box 10 steal " + steals + " " + (100 - steals) + ";", 0);
                Due.is("T1 left wall", x.wall(false, 0), steals);
                Due.is("T1 right wall", x.wall(true, 0), 100 - steals);
            } else {
                fault("T1 left wall", "box 10 steal ^" + steals + " 0;", 2);
                fault("T1 right wall", "box 10 steal 0 ^" + steals + ";", 2);
            }
        }
        LineBalls x = fits("T1", "box 10;", 0);
        Due.is("T1 0 without steal", x.wall(false, 0) + "," + x.wall(true, 0), "0,0");
        Due.load(x, "box 10 steal 7 8;");
        Due.load(x, "box 10;");
        Due.is("T1 0 without steal, behind one with it", x.wall(false, 0) + "," + x.wall(true, 0), "0,0");
    }

    private static void boxOnlyFirst() {
        fault("T1 the first statement", "^post 1 steal 1;box 10;", 1);
        fault("T1 the first statement", "^ball a at 1 speed 1 weight 1;box 10;", 1);
        fault("T1 the first statement", "^steal 1 1;", 1);
        fault("T1 the first statement", "^;box 10;", 1);
        fault("T1 only there", "box 10;^box 10;", 1);
        fault("T1 only there", "box 10;post 1 steal 1;^box 10;", 1);
        fault("T1 only there", "box 10;ball a at 1 speed 1 weight 1;^box 10;", 1);
        fault("T1 each text has it", "^", 1);
        fault("T1 each text has it", " \n ^", 1);
        fits("T1 it alone", "box 10;", 0);
        fault("T1 each statement ends with ;", "box 10^", 1);
        fault("T1 each statement ends with ;", "box 10 ^post 1 steal 1;", 1);
        fault("T1 each statement ends with ;", "box 10;post 1 steal 1 ^ball a at 1 speed 1 weight 1;", 1);
        fault("T1 each statement ends with ;", "box 10;ball a at 1 speed 1 weight 1 ^ball b at 1 speed 1 weight 1;", 1);
        fault("T1 no statement is empty", "box 10;^;", 1);
    }

    private static void posts() {
        for (int cells : new int[] {10, 11, 200}) {
            for (int cell : new int[] {0, 1, 9, 10, 11, 199, 200, 201}) {
                if (cell < cells) {
                    LineBalls x = fits("T1 a post's cell", "box " + cells + ";post " + cell + " steal 3;", 0);
                    Due.is("T1 post", x.post(0, 0) + "," + x.post(0, 1) + "," + x.post(0, 2), cell + ",3,0");
                } else {
                    fault("T1 a post's cell", "box " + cells + ";post ^" + cell + " steal 3;", 2);
                }
            }
        }
        for (int steals = 0; steals <= 130; steals++) {
            if (steals <= 100) {
                Due.is("T1 a post steals", fits("T1", "box 10;post 9 steal " + steals + ";", 0).post(0, 1), steals);
            } else {
                fault("T1 a post steals", "box 10;post 9 steal ^" + steals + ";", 2);
            }
        }
        fault("T1 steal of a post is due", "box 10;post 9^;", 1);
        fault("T1 code 4, a post", "box 10;post 9 steal 1;post ^9 steal 1;", 4);
        fault("T1 code 4, the first of three posts", "box 10;post 1 steal 1;post 2 steal 1;post 3 steal 1;post ^1 steal 1;", 4);
        fault("T1 code 4, a ball", "box 10;ball a at 9 speed 1 weight 1;post ^9 steal 1;", 4);
        fits("T1 the cells beside", "box 10;ball a at 5 speed 1 weight 1;post 4 steal 1;post 6 steal 1;", 1);
    }

    private static void balls() {
        for (int cells : new int[] {10, 11, 200}) {
            for (int cell : new int[] {0, 1, 9, 10, 11, 199, 200, 201}) {
                if (cell < cells) {
                    LineBalls x = fits("T1 a ball's cell", "box " + cells + ";ball a at " + cell + " speed 1 weight 1;", 1);
                    Due.is("T1 ball", x.ball(0, 0), cell);
                } else {
                    fault("T1 a ball's cell", "box " + cells + ";ball a at ^" + cell + " speed 1 weight 1;", 2);
                }
            }
        }
        fault("T1 a cell has no sign", "box 10;ball a at ^-1 speed 1 weight 1;", 1);
        for (int weight = 0; weight <= 130; weight++) {
            if (weight >= 1 && weight <= 20) {
                Due.is("T1 weight", fits("T1", "box 10;ball a at 1 speed 1 weight " + weight + ";", 1).ball(0, 2), weight);
            } else {
                fault("T1 weight", "box 10;ball a at 1 speed 1 weight ^" + weight + ";", 2);
            }
        }
        fault("T1 a weight has no sign", "box 10;ball a at 1 speed 1 weight ^-1;", 1);
        fault("T1 code 4, a ball", "box 10;ball a at 9 speed 1 weight 1;ball b at ^9 speed 1 weight 1;", 4);
        fault("T1 code 4, a post", "box 10;post 9 steal 1;ball b at ^9 speed 1 weight 1;", 4);
        fault("T1 code 4, the first of nine", "box 10;" + ballsOf(9) + "ball nj at ^0 speed 0 weight 1;", 4);
        fault("T1 code 4, the last of nine", "box 10;" + ballsOf(9) + "ball nj at ^8 speed 0 weight 1;", 4);
        LineBalls x = fits("T1", "box 10;ball a at 1 speed 59 weight 1;", 1);
        Due.is("T1 a ball has saved 0 at first", x.ball(0, 3), 0);
    }

    private static void counts() {
        Due.is("T1 four posts", fits("T1", "box 20;" + FOUR_POSTS, 0).property(2), 4);
        fault("T1 code 5", "box 20;" + FOUR_POSTS + "^post 4 steal 0;", 5);
        fault("T1 code 5", "box 20;" + FOUR_POSTS + "^post", 5);
        fault("T1 code 5", "box 20;" + FOUR_POSTS + "ball a at 9 speed 1 weight 1;^post 4 steal 0;", 5);
        fits("T1 ten balls", "box 10;" + ballsOf(10), 10);
        fault("T1 code 5", "box 20;" + ballsOf(10) + "^ball nk at 10 speed 0 weight 1;", 5);
        fault("T1 code 5", "box 20;" + ballsOf(10) + "^ball", 5);
        fault("T1 code 5", "box 20;" + ballsOf(10) + "post 10 steal 0;^ball", 5);
        // Ten balls and four posts at once: counted apart.
        String both = "box 10;" + FOUR_POSTS.replace(" steal ", "steal");
        for (int i = 0; i < 6; i++) {
            both += "ball n" + (char) ('a' + i) + " at " + (4 + i) + " speed 0 weight 1;";
        }
        fits("T1 a line without a free cell", both, 6);
        String all = "box 20;" + FOUR_POSTS;
        for (int i = 0; i < 10; i++) {
            all += "ball " + (char) ('c' + i) + " at " + (4 + i) + " speed 0 weight 1;";
        }
        LineBalls x = fits("T1 ten balls and four posts", all, 10);
        Due.is("T1 ten balls and four posts", Due.line(x), "####0123456789......");
        fault("T1 code 5", all + "^post", 5);
        fault("T1 code 5", all + "^ball", 5);
        fault("T1 neither", all + "^steal", 1);
    }

    /** The word post a 5th time, or ball an 11th time, where it cannot stand at all: 1 is smaller than 5. */
    private static void smallestCode() {
        fault("T1 the smallest code", "box 20;" + FOUR_POSTS + "ball ^post at 9 speed 1 weight 1;", 1);
        fault("T1 the smallest code", "box 20;" + FOUR_POSTS + "ball a at ^post", 1);
        fault("T1 the smallest code", "box 20;" + FOUR_POSTS + "ball a at 9 speed 1 weight 1 ^post", 1);
        fault("T1 the smallest code", "box 20;" + FOUR_POSTS.substring(0, FOUR_POSTS.length() - 1) + " ^post", 1);
        fault("T1 the smallest code", "box 20;" + ballsOf(9) + "ball nj at 9 speed 0 weight 1 ^ball", 1);
        fault("T1 the smallest code", "box 20;" + ballsOf(10) + "post ^ball", 1);
        fault("T1 the smallest code", "box 20;" + ballsOf(10) + "post 10 steal 0 ^ball", 1);
    }

    /** Of several tokens with errors the first one counts, whatever the code of a later one is. */
    private static void firstToken() {
        fault("T1 the first token", "box ^9 box;", 2);
        fault("T1 the first token", "box 10;ball a at ^10 at;", 2);
        fault("T1 the first token", "box 10;ball a at 1 speed 1 weight 1;ball ^a 1;", 3);
        fault("T1 the first token", "box 10;ball a at 1 speed 1 weight 1;ball b at ^1 1;", 4);
        fault("T1 the first token", "box 20;" + FOUR_POSTS + "^post post 99;", 5);
        fault("T1 the first token", "box 10;ball a at 1 speed 1 weight 1;ball ^a at 1 speed 61 weight 0;", 3);
        fault("T1 the first token", "box 10 steal ^101 101;", 2);
        fault("T1 the first token", "box ^9 steal 101 101", 2);
    }

    /** At each place of each statement, each kind of token that cannot stand there. */
    private static void tokenThatCannotStand() {
        List<String> text = List.of(("box 10 steal 1 2 ; post 3 steal 4 ; ball a at 5 speed - 6 weight 7 ; "
                + "ball b at 6 speed 6 weight 7 ;").split(" "));
        String[] fitting = ("box number steal|; number number ; post|ball number steal number ; "
                + "post|ball name at number speed -|number number weight number ; "
                + "post|ball name at number speed -|number weight number ;").split(" ");
        String[] tokens = {"box", "steal", "post", "ball", "at", "speed", "weight", "ab", "sevenxx", "5", ";", "-", "#", "A"};
        for (int n = 0; n < text.size(); n++) {
            String ahead = String.join(" ", text.subList(0, n)) + (n == 0 ? "" : " ");
            for (String token : tokens) {
                String kind = token.equals("5") ? "number" : token.equals("ab") ? "name" : token;
                if (!List.of(fitting[n].split("\\|")).contains(kind)) {
                    fault("T1 code 1", ahead + "^" + token + " " + String.join(" ", text.subList(n, text.size())), 1);
                    fault("T1 code 1", ahead + "^" + token, 1);
                }
            }
        }
    }

    /** A text that ends behind each token, with and without spaces: it is whole behind a ';' alone. */
    private static void endOfText() {
        String[] tokens = ("box 10 steal 1 2 ; post 3 steal 4 ; ball a at 5 speed - 6 weight 7 ; "
                + "ball b at 6 speed 6 weight 7 ; post 7 steal 1 ;").split(" ");
        for (int n = 0; n <= tokens.length; n++) {
            for (String behind : new String[] {"", " ", "\n", " \n \n "}) {
                String text = String.join(" ", List.of(tokens).subList(0, n)) + behind;
                if (n > 0 && tokens[n - 1].equals(";")) {
                    fits("T1 the end behind ;", text, n > 27 ? 2 : n > 18 ? 1 : 0);
                } else {
                    fault("T1 the end of the text", text + "^", 1);
                }
            }
        }
    }

    // ---- the promises ----

    private static void promise1() {
        Due.is("P1 all of a new object", Due.all(new LineBalls()), "p10 p0 p0 p0 p0 p0 p0 "
                + "-1,-1,-1,-1,-1,-1,-1,-1,-1,-1, walls 0,0,0,0 log  a0 a0 a0 a0 a0 c0 c0 c0 c0 undo 0 error 0,-1 in 0 out ");
        Due.is("P1 a cell has nothing", new LineBalls().at(9), -1);
        Edge.refuses("P1 at(10)", Texts.INDEX, Edge::fresh, x -> x.at(10));
        Edge.refuses("P1 post(0, 0)", Texts.INDEX, Edge::fresh, x -> x.post(0, 0));
        Edge.refuses("P1 ball(0, 0)", Texts.INDEX, Edge::fresh, x -> x.ball(0, 0));
        Edge.refuses("P1 addBall(10, 60, 1)", Texts.INDEX, Edge::fresh, x -> x.addBall(10, 60, 1));
        LineBalls x = new LineBalls();
        x.addBall(9, 60, 20);
        x.addBall(0, -60, 20);
        x.pulse(1);
        Due.is("P1 walls beside the cells 0 and 9 steal nothing", Due.balls(x), "1@0:60 0@9:-60");
        // A text with an error is no load that changes this.
        LineBalls y = new LineBalls();
        Due.load(y, "box 20;x");
        Due.is("P1 as new behind a text with an error", Due.state(y), Due.state(new LineBalls()));
    }

    private static void promise1Buffers() {
        Edge.refuses("P1 truncate(1)", Texts.ARGUMENT, Edge::fresh, x -> x.truncate(1));
        Edge.asks("P1 truncate(0)", Edge::fresh, x -> x.truncate(0));
        Edge.refuses("P1 outputByte(0)", Texts.NO_ELEMENT, Edge::fresh, x -> x.outputByte(0));
        Edge.refuses("P1 restore(0)", Texts.STATE, Edge::fresh, x -> x.restore(0));
        Edge.refuses("P1 restore(1)", Texts.STATE, Edge::fresh, x -> x.restore(1));
        Edge.refuses("P1 undo()", Texts.STATE, Edge::fresh, x -> x.undo());
        LineBalls x = new LineBalls();
        Due.is("P1 an empty input is a text with an error", x.load(), -4);
        Due.is("P1 its code and position", x.errorCode() + " at " + x.errorPosition(), "1 at 0");
        Due.is("P1 find of nothing", new LineBalls().find(), -1);
        // Each object has its own.
        LineBalls y = Edge.busy();
        Due.is("P1 another new object", Due.all(new LineBalls()), Due.all(Edge.fresh()));
        Due.is("P1 the busy one", Due.all(y), Due.all(Edge.busy()));
    }

    private static LineBalls withInput(int length) {
        LineBalls x = new LineBalls();
        Due.feed(x, "box 14 steal 3 4;" + " ".repeat(length - 17));
        return x;
    }

    private static void promise2() {
        LineBalls x = new LineBalls();
        for (int i = 1; i <= 20; i++) {
            Due.is("P2 the new length", x.append(-1, 0, Texts.LEAST, Texts.MOST, 1), 20 * i);
        }
        Due.is("P2 400 bytes", Due.inputLength(x), 400);
        for (int length : new int[] {381, 382, 399, 400}) {
            Edge.refuses("P2 append behind " + length, Texts.STATE, () -> withInput(length), y -> y.append(0, 0, 0, 0, 0));
        }
        for (int length : new int[] {17, 379, 380}) {
            Due.is("P2 append behind " + length, withInput(length).append(0, 0, 0, 0, 0), length + 20);
        }
        LineBalls z = withInput(400);
        z.truncate(380);
        Due.is("P2 append behind truncate", z.append(0x3b3b3b3b, 0, 0, 0, 0), 400);
        Due.is("P2 the 20 bytes are the last ones", z.load() + " at " + z.errorPosition(), "-4 at 380");
        Due.is("P2 append behind load", z.append(0, 0, 0, 0, 0), 20);
        Edge.refuses("P2 append to a full object", Texts.STATE, Edge::full, y -> y.append(0, 0, 0, 0, 0));
    }

    private static void promise2Order() {
        LineBalls x = new LineBalls();
        // "box 10;ball abcdef at"
        x.append(0x626f7820, 0x31303b62, 0x616c6c20, 0x61626364, 0x65662061);
        x.append(0x74203920, 0x73706565, 0x64203620, 0x77656967, 0x68742037);
        x.append(0x3b202020, 0x20202020, 0x20202020, 0x20202020, 0x20202020);
        Due.is("P2 most significant byte first", x.load(), 1);
        Due.is("P2 its ball", x.ball(0, 0) + "," + x.ball(0, 1) + "," + x.ball(0, 2), "9,6,7");
        Due.is("P2 its name", Due.find(x, "abcdef"), 0);
        // Each of the 20 bytes is put, those above 127 and 0, too: the symbol's place is the error's.
        for (int place = 0; place < 20; place++) {
            for (int sign : new int[] {0, 1, 127, 128, 255}) {
                LineBalls y = new LineBalls();
                Due.load(y, " ".repeat(place) + (char) sign + " ".repeat(19 - place));
                Due.is("P2 byte " + sign + " at " + place, y.errorCode() + " at " + y.errorPosition(), "1 at " + place);
            }
        }
    }

    private static void promise3() {
        for (int length : new int[] {17, 20, 399, 400}) {
            Edge.refuses("P3 truncate one above " + length, Texts.ARGUMENT, () -> withInput(length), x -> x.truncate(length + 1));
            Edge.refuses("P3 truncate(-1) of " + length, Texts.ARGUMENT, () -> withInput(length), x -> x.truncate(-1));
            Edge.asks("P3 truncate to the very length " + length, () -> withInput(length), x -> x.truncate(length));
        }
        Edge.refusesAlways("P3 truncate(401)", Texts.ARGUMENT, x -> x.truncate(401));
        Edge.refusesAlways("P3 truncate(-1)", Texts.ARGUMENT, x -> x.truncate(-1));
        Edge.refusesAlways("P3 truncate(least)", Texts.ARGUMENT, x -> x.truncate(Texts.LEAST));
        Edge.refusesAlways("P3 truncate(most)", Texts.ARGUMENT, x -> x.truncate(Texts.MOST));
        LineBalls x = withInput(400);
        x.truncate(17);
        Due.is("P3 its first 17 bytes", x.load() + "," + x.wall(true, 0), "0,4");
        LineBalls y = withInput(400);
        y.truncate(16);
        Due.is("P3 its first 16 bytes", y.load() + " at " + y.errorPosition(), "-4 at 16");
        LineBalls z = withInput(400);
        z.truncate(1);
        Due.is("P3 one byte", z.load() + " at " + z.errorPosition(), "-4 at 0");
        LineBalls u = withInput(400);
        u.truncate(0);
        Due.is("P3 no byte", u.load() + " at " + u.errorPosition(), "-4 at 0");
        Edge.refuses("P3 truncate(1) behind truncate(0)", Texts.ARGUMENT, () -> {
            LineBalls v = withInput(400);
            v.truncate(0);
            return v;
        }, v -> v.truncate(1));
    }

    private static void promise4() {
        Due.is("P4 no balls", Due.load(new LineBalls(), "box 10;"), 0);
        Due.is("P4 ten balls", Due.load(new LineBalls(), "box 10;" + ballsOf(10)), 10);
        LineBalls x = withInput(400);
        Due.is("P4 400 bytes", x.load(), 0);
        Due.is("P4 the buffer is empty", Due.inputLength(x), 0);
        String text = "box 11 steal 5 6;post 3 steal 7;ball q at 4 speed 8 weight 9;ball a at 0 speed 1 weight 1;";
        for (Edge.Maker maker : new Edge.Maker[] {Edge::fresh, Edge::busy, Edge::full}) {
            LineBalls y = maker.make();
            String output = Due.output(y);
            int count = y.undoCount();
            // What was asked ahead of it leaves nothing, either.
            y.hitsIn(50);
            y.nextHit(true);
            Due.is("P4 load", Due.load(y, text), 2);
            Due.is("P4 all is that of the text", Due.state(y), Due.state(Due.loaded(text)));
            Due.is("P4 the output stays", Due.output(y), output);
            Due.is("P4 the buffer is empty", Due.inputLength(y), 0);
            Due.is("P4 it can be undone", y.undoCount(), Math.min(6, count + 1));
            Due.is("P4 its names alone", Due.find(y, "q") + "," + Due.find(y, "a") + "," + Due.find(y, "bb"), "0,1,-1");
            Due.is("P4 the log is empty", Due.log(y), "");
            slotsStay(maker, y);
        }
        LineBalls z = Edge.busy();
        z.load();
        Due.is("P4 a second load has nothing to read", z.load() + " " + z.errorCode() + " at " + z.errorPosition(), "-4 1 at 0");
    }

    private static void slotsStay(Edge.Maker maker, LineBalls loaded) {
        LineBalls as = maker.make();
        for (int slot = 0; slot <= 1; slot++) {
            int one = slot;
            Due.is("P4 slot " + slot + " stays", Edge.thrown(loaded, z -> z.restore(one)), Edge.thrown(as, z -> z.restore(one)));
            if (Edge.thrown(as, z -> z.restore(one)).equals("nothing")) {
                Due.is("P4 what slot " + slot + " kept", Due.state(loaded), Due.state(as));
            }
        }
    }

    /** A text with each code: only the buffer and the parse error change. */
    private static void promise4Failed() {
        String[] texts = {"", "box 10;x", "box 10;ball q at 10", "box 10;ball q at 1 speed 1 weight 1;ball q",
            "box 10;post 1 steal 1;post 1", "box 10;" + FOUR_POSTS + "post"};
        int[] codes = {1, 1, 2, 3, 4, 5};
        for (Edge.Maker maker : new Edge.Maker[] {Edge::fresh, Edge::busy, Edge::full}) {
            for (int i = 0; i < texts.length; i++) {
                String text = texts[i];
                LineBalls x = maker.make();
                LineBalls as = maker.make();
                Due.is("P4 load of " + text, Due.load(x, text), -4);
                Due.is("P4 code of " + text, x.errorCode(), codes[i]);
                Due.is("P4 the buffer behind " + text, Due.inputLength(x), 0);
                Due.is("P4 the output behind " + text, Due.output(x), Due.output(as));
                Due.is("P4 the rest behind " + text, Edge.behind(x), Edge.behind(as));
            }
        }
    }

    private static void promise5And6() {
        LineBalls x = new LineBalls();
        Due.is("P5 P6 no load", x.errorCode() + " at " + x.errorPosition(), "0 at -1");
        Due.load(x, "box 10;");
        Due.is("P5 P6 no error", x.errorCode() + " at " + x.errorPosition(), "0 at -1");
        Due.load(x, "x");
        Due.is("P5 P6 at the first byte", x.errorCode() + " at " + x.errorPosition(), "1 at 0");
        Due.load(x, "box 10;" + " ".repeat(392) + "x");
        Due.is("P5 P6 at the last byte of 400", x.errorCode() + " at " + x.errorPosition(), "1 at 399");
        Due.load(x, "box 10" + " ".repeat(394));
        Due.is("P5 P6 behind the last byte of 400", x.errorCode() + " at " + x.errorPosition(), "1 at 400");
        Due.load(x, "box " + "9".repeat(396));
        Due.is("P5 P6 a number of 396 digits", x.errorCode() + " at " + x.errorPosition(), "2 at 4");
        // find(), truncate(), append(), undo(), restore() are no load().
        x.keep(0);
        Due.find(x, "a");
        x.append(0, 0, 0, 0, 0);
        x.truncate(0);
        x.stop();
        x.undo();
        x.restore(0);
        Due.is("P5 P6 of the last load", x.errorCode() + " at " + x.errorPosition(), "2 at 4");
        Due.load(x, "box 10;");
        Due.is("P5 P6 no error any more", x.errorCode() + " at " + x.errorPosition(), "0 at -1");
        x.undo();
        Due.is("P5 P6 behind undo of the load", x.errorCode() + " at " + x.errorPosition(), "0 at -1");
    }

    /** The last token ends with the buffer's last byte: each kind of token, right and wrong. */
    private static void lastTokenOfAFullBuffer() {
        fault("T1 P2", atTheEnd("box 10;", "ball", "^"), 1);
        fault("T1 P2", atTheEnd("box 10;ball", "abcdef", "^"), 1);
        fault("T1 P2", atTheEnd("box 10;ball", "^abcdefg", ""), 1);
        fault("T1 P2", atTheEnd("box 10;ball", "^weight", ""), 1);
        fault("T1 P2", atTheEnd("box 10;ball a at 1 speed 1 weight 1;ball", "^a", ""), 3);
        fault("T1 P2", atTheEnd("box 10;ball a at 1 speed 1 weight 1;ball b at", "^1", ""), 4);
        fault("T1 P2", atTheEnd("box 10;ball a at", "9", "^"), 1);
        fault("T1 P2", atTheEnd("box 10;ball a at", "^10", ""), 2);
        fault("T1 P2", atTheEnd("box 10;ball a at 1 speed", "-", "^"), 1);
        fault("T1 P2", atTheEnd("box 10;ball a at 1 speed -", "^61", ""), 2);
        fault("T1 P2", atTheEnd("box 20;" + FOUR_POSTS, "^post", ""), 5);
        fault("T1 P2", atTheEnd("box 10;", "^x", ""), 1);
        Due.is("T1 P2 a ';'", fits("T1 P2", atTheEnd("box 10;ball a at 1 speed 1 weight 1", ";", ""), 1).ball(0, 2), 1);
        fits("T1 P2", atTheEnd("box 10;", " ", ""), 0);
        fits("T1 P2", atTheEnd("box 10;", "\n", ""), 0);
        // A number that goes on through the whole buffer.
        fault("T1 P2", "box ^" + "0".repeat(395) + "9", 2);
        fault("T1 P2", "box " + "0".repeat(394) + "10^", 1);
    }

    /** 400 bytes (the mark is none of them): the text, spaces, the last token. */
    private static String atTheEnd(String text, String token, String behind) {
        String marked = token + behind;
        int marks = marked.contains("^") ? 1 : 0;
        return text + " ".repeat(400 + marks - text.length() - marked.length()) + marked;
    }

    private static void promise7() {
        LineBalls x = Due.loaded("box 20;ball zzzzzz at 1 speed 0 weight 1;ball a at 2 speed 0 weight 1;"
                + "ball ab at 3 speed 0 weight 1;");
        x.addBall(0, 0, 1);
        String[] found = {"zzzzzz", "a", "ab"};
        for (int i = 0; i < 3; i++) {
            Due.is("P7 find " + found[i], Due.find(x, found[i]), i);
            Due.is("P7 the buffer is empty", Due.inputLength(x), 0);
        }
        String[] none = {"", " ", "a ", " a", "a\n", "a;", "A", "b", "ba", "abc", "z", "zzzzz", "zzzzzzz", "ball", "at",
            "\u00e1", "a\u0000", "\u0000a", "`", "{", "aa", "zzzzzz" + " ".repeat(394), "z".repeat(400)};
        for (String name : none) {
            Due.is("P7 find '" + name + "'", Due.find(x, name), -1);
            Due.is("P7 the buffer is empty", Due.inputLength(x), 0);
        }
        Due.is("P7 without balls", Due.find(new LineBalls(), "a"), -1);
        LineBalls y = Due.loaded("box 10;" + ballsOf(10));
        Due.is("P7 the first of ten", Due.find(y, "na"), 0);
        Due.is("P7 the last of ten", Due.find(y, "nj"), 9);
        y.removeBall(0);
        Due.is("P7 a removed one", Due.find(y, "na"), -1);
        Due.is("P7 the last of nine", Due.find(y, "nj"), 8);
        y.addBall(0, 0, 1);
        Due.is("P7 a new one has no name", y.find(), -1);
        Due.is("P7 nor that of one behind it", Due.find(y, "nj"), 8);
        Edge.Maker maker = () -> {
            LineBalls z = Edge.busy();
            z.truncate(0);
            return z;
        };
        Edge.asks("P7 find of nothing", maker, z -> z.find());
    }
}
