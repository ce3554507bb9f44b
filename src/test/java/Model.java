import java.util.ArrayDeque;
import java.util.ArrayList;
import java.util.Arrays;
import java.util.Comparator;
import java.util.Deque;
import java.util.HashMap;
import java.util.List;
import java.util.Map;
import java.util.NoSuchElementException;
import java.util.regex.Matcher;
import java.util.regex.Pattern;

/**
 * The document once more, as plainly as it can be told and with the whole library of Java: what
 * ModelTests compares the program with. It shares no code with it.
 */
final class Model {
    /** A ball is one object for as long as it is on the line, so that log and pairs may point at it. */
    static final class B {
        String name;
        int cell, speed, weight, saved, went, hits, bounces, waits;
    }

    static final class Post {
        int cell, steals, bounces;
    }

    /** other is null for a wall or post. */
    record Entry(int time, B mover, B other, int amount) {
    }

    static final class State {
        int cells = 10;
        int time;
        List<B> balls = new ArrayList<>();
        List<Post> posts = new ArrayList<>();
        int[] steals = new int[2];
        int[] wallBounces = new int[2];
        List<Entry> log = new ArrayList<>();
        Map<List<B>, Integer> pairs = new HashMap<>();
        long got, traded, pushed;
        int hits, bounces, waits, went;

        State copy() {
            State s = new State();
            Map<B, B> twin = new HashMap<>();
            for (B b : balls) {
                B c = new B();
                c.name = b.name;
                c.cell = b.cell;
                c.speed = b.speed;
                c.weight = b.weight;
                c.saved = b.saved;
                c.went = b.went;
                c.hits = b.hits;
                c.bounces = b.bounces;
                c.waits = b.waits;
                twin.put(b, c);
                s.balls.add(c);
            }
            for (Post p : posts) {
                Post q = new Post();
                q.cell = p.cell;
                q.steals = p.steals;
                q.bounces = p.bounces;
                s.posts.add(q);
            }
            for (Entry e : log) {
                s.log.add(new Entry(e.time, twin.getOrDefault(e.mover, e.mover),
                        e.other == null ? null : twin.getOrDefault(e.other, e.other), e.amount));
            }
            pairs.forEach((pair, n) -> s.pairs.put(
                    List.of(twin.getOrDefault(pair.get(0), pair.get(0)), twin.getOrDefault(pair.get(1), pair.get(1))), n));
            s.cells = cells;
            s.time = time;
            s.steals = steals.clone();
            s.wallBounces = wallBounces.clone();
            s.got = got;
            s.traded = traded;
            s.pushed = pushed;
            s.hits = hits;
            s.bounces = bounces;
            s.waits = waits;
            s.went = went;
            return s;
        }

        B ballAt(int cell) {
            return balls.stream().filter(b -> b.cell == cell).findFirst().orElse(null);
        }

        Post postAt(int cell) {
            return posts.stream().filter(p -> p.cell == cell).findFirst().orElse(null);
        }

        boolean free(int cell) {
            return cell >= 0 && cell < cells && ballAt(cell) == null && postAt(cell) == null;
        }

        List<B> byCell() {
            List<B> list = new ArrayList<>(balls);
            list.sort(Comparator.comparingInt(b -> b.cell));
            return list;
        }

        long push() {
            return balls.stream().mapToLong(b -> (long) b.weight * b.speed).sum();
        }

        long energy() {
            return balls.stream().mapToLong(b -> (long) b.weight * b.speed * b.speed).sum();
        }

        boolean calm() {
            return balls.stream().allMatch(b -> b.speed == 0);
        }

        void pulse() {
            Map<B, Integer> due = new HashMap<>();
            for (B b : balls) {
                if (b.speed != 0) {
                    b.saved += Math.abs(b.speed);
                    if (b.saved >= 60) {
                        b.saved -= 60;
                        due.put(b, b.speed > 0 ? 1 : -1);
                    }
                }
            }
            if (due.isEmpty()) {
                time++;
                return;
            }
            List<B> turns = new ArrayList<>();
            List<B> up = byCell();
            for (B b : up) {
                if (due.getOrDefault(b, 0) == -1) {
                    turns.add(b);
                }
            }
            for (int i = up.size() - 1; i >= 0; i--) {
                if (due.getOrDefault(up.get(i), 0) == 1) {
                    turns.add(up.get(i));
                }
            }
            List<B> struck = new ArrayList<>();
            for (B b : turns) {
                if (!struck.contains(b)) {
                    turn(b, due.get(b), struck);
                }
            }
            time++;
        }

        private void turn(B b, int side, List<B> struck) {
            int next = b.cell + side;
            if (free(next)) {
                b.cell = next;
                b.went++;
                went++;
                return;
            }
            B other = ballAt(next);
            if (other == null) {
                bounce(b, next);
                return;
            }
            B l = side == 1 ? b : other;
            B r = side == 1 ? other : b;
            int[] behind = Model.hit(l.speed, r.speed, l.weight, r.weight);
            if (behind == null) {
                b.waits++;
                waits++;
                return;
            }
            traded += (long) r.weight * (behind[1] - r.speed);
            l.speed = behind[0];
            r.speed = behind[1];
            l.hits++;
            r.hits++;
            hits++;
            pairs.merge(List.of(l, r), 1, Integer::sum);
            struck.add(l);
            struck.add(r);
            log.add(new Entry(time, b, other, behind[2]));
        }

        private void bounce(B b, int next) {
            int steal;
            if (next < 0 || next >= cells) {
                int wall = next < 0 ? 0 : 1;
                steal = steals[wall];
                wallBounces[wall]++;
            } else {
                Post p = postAt(next);
                steal = p.steals;
                p.bounces++;
            }
            int behind = Model.bounce(b.speed, steal);
            got += (long) b.weight * (b.speed - behind);
            log.add(new Entry(time, b, null, Math.abs(b.speed) - Math.abs(behind)));
            b.speed = behind;
            b.bounces++;
            bounces++;
        }

        int pass(int pulses) {
            int before = hits;
            for (int i = 0; i < pulses; i++) {
                pulse();
            }
            return hits - before;
        }
    }

    /** The speeds behind the hit and k; null if there is none. */
    static int[] hit(int vl, int vr, int ml, int mr) {
        if (vl <= vr) {
            return null;
        }
        int g = java.math.BigInteger.valueOf(ml).gcd(java.math.BigInteger.valueOf(mr)).intValue();
        int u = mr / g;
        int w = ml / g;
        int k = (int) Math.floor(2.0 * (vl - vr) / (u + w));
        if (k == 0) {
            k = 1;
        }
        while (Math.abs(vl - k * u) > 60 || Math.abs(vr + k * w) > 60) {
            k--;
        }
        return new int[] {vl - k * u, vr + k * w, k};
    }

    static int bounce(int speed, int steals) {
        int size = Math.abs(speed);
        int less = (int) Math.floor(size * steals / 100.0);
        return -Integer.signum(speed) * (size - less);
    }

    // ---- the object ----

    private byte[] input = new byte[0];
    private String output = "";
    private int code = 0;
    private int position = -1;
    private State now = new State();
    private final Deque<State> past = new ArrayDeque<>();
    private final State[] slots = new State[2];

    private static void index(boolean right) {
        if (!right) {
            throw new IndexOutOfBoundsException();
        }
    }

    private static void argument(boolean right) {
        if (!right) {
            throw new IllegalArgumentException();
        }
    }

    private static void state(boolean right) {
        if (!right) {
            throw new IllegalStateException();
        }
    }

    private static void element(boolean right) {
        if (!right) {
            throw new NoSuchElementException();
        }
    }

    private static boolean in(int value, int low, int high) {
        return low <= value && value <= high;
    }

    private B need(int ball) {
        index(in(ball, 0, now.balls.size() - 1));
        return now.balls.get(ball);
    }

    private int number(B b) {
        return now.balls.indexOf(b);
    }

    private void remember() {
        past.addLast(now.copy());
        if (past.size() > 6) {
            past.removeFirst();
        }
    }

    int append(int a, int b, int c, int d, int e) {
        state(input.length + 20 <= 400);
        int length = input.length;
        input = Arrays.copyOf(input, length + 20);
        java.nio.ByteBuffer.wrap(input, length, 20).putInt(a).putInt(b).putInt(c).putInt(d).putInt(e);
        return input.length;
    }

    void truncate(int length) {
        argument(in(length, 0, input.length));
        input = Arrays.copyOf(input, length);
    }

    private String takeInput() {
        String text = new String(input, java.nio.charset.StandardCharsets.ISO_8859_1);
        input = new byte[0];
        return text;
    }

    int load() {
        Reader reader = new Reader(takeInput());
        try {
            State s = reader.read();
            code = 0;
            position = -1;
            remember();
            now = s;
            return s.balls.size();
        } catch (Fault f) {
            code = f.code;
            position = f.position;
            return -4;
        }
    }

    int errorCode() {
        return code;
    }

    int errorPosition() {
        return position;
    }

    int find() {
        String text = takeInput();
        for (int i = 0; i < now.balls.size(); i++) {
            if (text.equals(now.balls.get(i).name)) {
                return i;
            }
        }
        return -1;
    }

    int property(int what) {
        argument(in(what, 0, 6));
        return new int[] {now.cells, now.balls.size(), now.posts.size(), now.time, Math.min(40, now.log.size()),
                (int) now.balls.stream().filter(b -> b.speed == 0).count(),
                now.balls.stream().mapToInt(b -> b.weight).sum()}[what];
    }

    int ball(int ball, int what) {
        B b = need(ball);
        argument(in(what, 0, 7));
        return new int[] {b.cell, b.speed, b.weight, b.saved, b.went, b.hits, b.bounces, b.waits}[what];
    }

    int at(int cell) {
        index(in(cell, 0, now.cells - 1));
        return number(now.ballAt(cell));
    }

    int post(int post, int what) {
        index(in(post, 0, now.posts.size() - 1));
        argument(in(what, 0, 2));
        Post p = now.posts.get(post);
        return new int[] {p.cell, p.steals, p.bounces}[what];
    }

    int wall(boolean right, int what) {
        argument(in(what, 0, 1));
        return (what == 0 ? now.steals : now.wallBounces)[right ? 1 : 0];
    }

    int placed(int place) {
        element(in(place, 0, now.balls.size() - 1));
        return number(now.byCell().get(place));
    }

    int neighbour(int ball, boolean right) {
        int cell = need(ball).cell;
        do {
            cell += right ? 1 : -1;
        } while (now.free(cell));
        return number(now.ballAt(cell));
    }

    int room(int ball, boolean right) {
        int cell = need(ball).cell;
        int free = 0;
        while (now.free(right ? cell + free + 1 : cell - free - 1)) {
            free++;
        }
        return free;
    }

    int hits(int ball, int other) {
        B a = need(ball);
        B b = need(other);
        return now.pairs.getOrDefault(List.of(a, b), 0) + now.pairs.getOrDefault(List.of(b, a), 0);
    }

    int logged(int index, int what) {
        index(in(index, 0, Math.min(40, now.log.size()) - 1));
        argument(in(what, 0, 3));
        Entry e = now.log.get(now.log.size() - 1 - index);
        return new int[] {e.time, number(e.mover), number(e.other), e.amount}[what];
    }

    long account(int what) {
        argument(in(what, 0, 4));
        return new long[] {now.push(), now.energy(), now.got, now.traded, now.pushed}[what];
    }

    int count(int what) {
        argument(in(what, 0, 3));
        return new int[] {now.hits, now.bounces, now.waits, now.went}[what];
    }

    int fastest() {
        return number(now.balls.stream().max(Comparator.<B>comparingInt(b -> Math.abs(b.speed))
                .thenComparing(b -> -number(b))).orElse(null));
    }

    int going(boolean right) {
        int set = 0;
        for (B b : now.balls) {
            if (Integer.signum(b.speed) == (right ? 1 : -1)) {
                set += 1 << number(b);
            }
        }
        return set;
    }

    int traded(int ball, int other, boolean second) {
        B a = need(ball);
        B b = need(other);
        argument(ball != other);
        B l = a.cell < b.cell ? a : b;
        B r = l == a ? b : a;
        int[] behind = hit(l.speed, r.speed, l.weight, r.weight);
        return behind == null ? -100 : behind[(second ? b : a) == l ? 0 : 1];
    }

    int bounced(int ball, int steals) {
        B b = need(ball);
        argument(in(steals, 0, 100));
        return bounce(b.speed, steals);
    }

    int dueIn(int ball) {
        B b = need(ball);
        int saved = b.saved;
        for (int n = 1; n <= 60; n++) {
            saved += Math.abs(b.speed);
            if (saved >= 60) {
                return n;
            }
        }
        return -1;
    }

    int hitIn() {
        State s = now.copy();
        for (int n = 1; n <= 3000; n++) {
            if (s.pass(1) > 0) {
                return n;
            }
        }
        return -1;
    }

    int nextHit(boolean second) {
        State s = now.copy();
        s.log.clear();
        for (int n = 1; n <= 3000; n++) {
            s.pulse();
            for (Entry e : s.log) {
                if (e.other != null) {
                    return s.balls.indexOf(second ? e.other : e.mover);
                }
            }
            s.log.clear();
        }
        return -1;
    }

    int ballHitIn(int ball) {
        need(ball);
        State s = now.copy();
        for (int n = 1; n <= 3000; n++) {
            int before = s.balls.get(ball).hits;
            s.pulse();
            if (s.balls.get(ball).hits > before) {
                return n;
            }
        }
        return -1;
    }

    private State in(int ticks) {
        argument(in(ticks, 0, 50));
        State s = now.copy();
        s.pass(60 * ticks);
        return s;
    }

    int cellIn(int ball, int ticks) {
        need(ball);
        return in(ticks).balls.get(ball).cell;
    }

    int speedIn(int ball, int ticks) {
        need(ball);
        return in(ticks).balls.get(ball).speed;
    }

    int hitsIn(int ticks) {
        return in(ticks).hits - now.hits;
    }

    int bouncesIn(int ticks) {
        return in(ticks).bounces - now.bounces;
    }

    long energyIn(int ticks) {
        return in(ticks).energy();
    }

    int calmIn() {
        State s = now.copy();
        for (int n = 0; n <= 50; n++) {
            if (s.calm()) {
                return n;
            }
            s.pass(60);
        }
        return -1;
    }

    long energyIf(boolean wall, int steals, int ticks) {
        argument(in(steals, 0, 100));
        argument(in(ticks, 0, 50));
        State s = now.copy();
        s.steals[wall ? 1 : 0] = steals;
        s.pass(60 * ticks);
        return s.energy();
    }

    double meanSpeed() {
        return now.balls.stream().mapToDouble(b -> Math.abs(b.speed)).average().orElse(0.0);
    }

    float share(int ball) {
        B b = need(ball);
        return now.energy() == 0 ? 0.0f : (float) (b.weight * b.speed * b.speed) / (float) now.energy();
    }

    double middle() {
        double sum = 0;
        double weights = 0;
        for (B b : now.balls) {
            sum += (double) b.cell * b.weight;
            weights += b.weight;
        }
        return now.balls.isEmpty() ? -1.0 : sum / weights;
    }

    int pulse(int pulses) {
        argument(in(pulses, 1, 600));
        remember();
        return now.pass(pulses);
    }

    int tick(int ticks) {
        argument(in(ticks, 1, 50));
        remember();
        return now.pass(60 * ticks);
    }

    int kick(int ball, int by) {
        B b = need(ball);
        argument(in(by, -60, 60));
        remember();
        long before = now.push();
        b.speed = Math.min(60, Math.max(-60, b.speed + by));
        now.pushed += now.push() - before;
        return b.speed;
    }

    int setWeight(int ball, int weight) {
        B b = need(ball);
        argument(in(weight, 1, 20));
        remember();
        long before = now.push();
        int old = b.weight;
        b.weight = weight;
        now.pushed += now.push() - before;
        return old;
    }

    int setSteal(int post, int steals) {
        index(in(post, -2, now.posts.size() - 1));
        argument(in(steals, 0, 100));
        remember();
        int old;
        if (post < 0) {
            old = now.steals[-1 - post];
            now.steals[-1 - post] = steals;
        } else {
            old = now.posts.get(post).steals;
            now.posts.get(post).steals = steals;
        }
        return old;
    }

    int addBall(int cell, int speed, int weight) {
        index(in(cell, 0, now.cells - 1));
        argument(in(speed, -60, 60) && in(weight, 1, 20));
        state(now.balls.size() < 10 && now.free(cell));
        remember();
        B b = new B();
        b.cell = cell;
        b.speed = speed;
        b.weight = weight;
        now.balls.add(b);
        now.pushed += (long) weight * speed;
        return number(b);
    }

    int removeBall(int ball) {
        need(ball);
        remember();
        B b = now.balls.remove(ball);
        now.pushed -= (long) b.weight * b.speed;
        return now.balls.size();
    }

    int turn(int ball) {
        B b = need(ball);
        remember();
        now.pushed -= 2L * b.weight * b.speed;
        b.speed = -b.speed;
        return b.speed;
    }

    int stop() {
        remember();
        int moved = 0;
        now.pushed -= now.push();
        for (B b : now.balls) {
            moved += Math.abs(Integer.signum(b.speed));
            b.speed = 0;
        }
        return moved;
    }

    int place(int ball, int cell) {
        B b = need(ball);
        index(in(cell, 0, now.cells - 1));
        state(cell == b.cell || now.free(cell));
        remember();
        int old = b.cell;
        b.cell = cell;
        return old;
    }

    int keep(int slot) {
        index(in(slot, 0, 1));
        slots[slot] = now.copy();
        return now.time;
    }

    int restore(int slot) {
        index(in(slot, 0, 1));
        state(slots[slot] != null);
        remember();
        now = slots[slot].copy();
        return now.time;
    }

    int undo() {
        state(!past.isEmpty());
        now = past.removeLast();
        return past.size();
    }

    int undoCount() {
        return past.size();
    }

    int writeLine() {
        StringBuilder text = new StringBuilder();
        for (int cell = 0; cell < now.cells; cell++) {
            B b = now.ballAt(cell);
            text.append(b != null ? "" + number(b) : now.postAt(cell) != null ? "#" : ".");
        }
        return write(text.toString());
    }

    int writeBalls() {
        List<String> parts = new ArrayList<>();
        for (B b : now.byCell()) {
            parts.add(number(b) + "@" + b.cell + ":" + b.speed);
        }
        return write(String.join(" ", parts));
    }

    int writeLog() {
        List<String> parts = new ArrayList<>();
        for (Entry e : now.log.subList(Math.max(0, now.log.size() - 10), now.log.size())) {
            parts.add(name(e.mover) + (e.other == null ? "|" : "x" + name(e.other)) + "/" + e.amount);
        }
        return write(String.join(" ", parts));
    }

    private String name(B b) {
        return number(b) < 0 ? "?" : "" + number(b);
    }

    private int write(String text) {
        output = text;
        return text.length();
    }

    int outputByte(int index) {
        element(in(index, 0, output.length() - 1));
        return output.charAt(index);
    }

    // ---- texts ----

    private static final class Fault extends Exception {
        private static final long serialVersionUID = 1;
        final int code;
        final int position;

        Fault(int code, int position) {
            this.code = code;
            this.position = position;
        }
    }

    /** Follows a pattern of words for each statement, token by token. */
    private static final class Reader {
        private static final Pattern TOKEN = Pattern.compile("[a-z]+|[0-9]+|[^ \n]", Pattern.DOTALL);
        private static final List<String> KEYWORDS = List.of("box", "steal", "post", "ball", "at", "speed", "weight");

        private final List<String> tokens = new ArrayList<>();
        private final List<Integer> places = new ArrayList<>();
        private int next = 0;
        private final State s = new State();

        Reader(String text) {
            Matcher m = TOKEN.matcher(text);
            while (m.find()) {
                tokens.add(m.group());
                places.add(m.start());
            }
            tokens.add("");
            places.add(text.length());
        }

        private String peek() {
            return tokens.get(next);
        }

        private Fault fault(int code) {
            return new Fault(code, places.get(next));
        }

        private void word(String due) throws Fault {
            if (!peek().equals(due)) {
                throw fault(1);
            }
            next++;
        }

        /** Looks at the number, but does not go behind it. */
        private int look(int low, int high) throws Fault {
            if (!peek().matches("[0-9]+")) {
                throw fault(1);
            }
            java.math.BigInteger value = new java.math.BigInteger(peek());
            if (value.compareTo(java.math.BigInteger.valueOf(low)) < 0
                    || value.compareTo(java.math.BigInteger.valueOf(high)) > 0) {
                throw fault(2);
            }
            return value.intValue();
        }

        private int number(int low, int high) throws Fault {
            int value = look(low, high);
            next++;
            return value;
        }

        private int cell() throws Fault {
            int cell = look(0, s.cells - 1);
            if (!s.free(cell)) {
                throw fault(4);
            }
            next++;
            return cell;
        }

        State read() throws Fault {
            word("box");
            s.cells = number(10, 200);
            if (peek().equals("steal")) {
                next++;
                s.steals[0] = number(0, 100);
                s.steals[1] = number(0, 100);
            }
            word(";");
            while (!peek().isEmpty()) {
                if (peek().equals("post")) {
                    post();
                } else if (peek().equals("ball")) {
                    ball();
                } else {
                    throw fault(1);
                }
            }
            return s;
        }

        private void post() throws Fault {
            if (s.posts.size() == 4) {
                throw fault(5);
            }
            next++;
            Post p = new Post();
            p.cell = cell();
            word("steal");
            p.steals = number(0, 100);
            word(";");
            s.posts.add(p);
        }

        private void ball() throws Fault {
            if (s.balls.size() == 10) {
                throw fault(5);
            }
            next++;
            B b = new B();
            b.name = peek();
            if (!b.name.matches("[a-z]{1,6}") || KEYWORDS.contains(b.name)) {
                throw fault(1);
            }
            if (s.balls.stream().anyMatch(other -> other.name.equals(b.name))) {
                throw fault(3);
            }
            next++;
            word("at");
            b.cell = cell();
            word("speed");
            int sign = 1;
            if (peek().equals("-")) {
                sign = -1;
                next++;
            }
            b.speed = sign * number(0, 60);
            word("weight");
            b.weight = number(1, 20);
            word(";");
            s.balls.add(b);
        }
    }
}
