import java.util.NoSuchElementException;

/**
 * Balls on a line between two walls: they move in pulses, bounce at walls and posts, and trade
 * speed by weight when they hit one another. What each call must do is told by the document's
 * promises; a call that is refused throws ahead of the first change.
 */
public final class LineBalls {
    public static final int NONE = -1;
    public static final int PARSE_ERROR = -4;
    public static final int NO_SPEED = -100;

    private static final int MAX_INPUT = 400;
    private static final int MAX_OUTPUT = 256;
    private static final int MIN_CELLS = 10;
    private static final int MAX_CELLS = 200;
    private static final int MAX_BALLS = 10;
    private static final int MAX_POSTS = 4;
    private static final int MAX_SPEED = 60;
    private static final int MAX_WEIGHT = 20;
    private static final int MAX_STEALS = 100;
    private static final int MAX_NAME = 6;
    private static final int MAX_PULSES = 600;
    private static final int MAX_TICKS = 50;
    private static final int TICK = 60;
    private static final int DUE = 60;
    private static final int FORESEEN = 3000;
    private static final int MAX_LOG = 40;
    private static final int WRITTEN_LOG = 10;
    private static final int MAX_PAST = 6;
    private static final int SLOTS = 2;

    private final byte[] input = new byte[MAX_INPUT];
    private int inputLength = 0;
    private final Output output = new Output();
    private int errorCode = 0;
    private int errorPosition = NONE;

    private final Line now = new Line();
    // What would be is tried on this one, and texts are read into it, so that the line itself stays.
    private final Line trial = new Line();
    private final Parser parser = new Parser(input, trial);
    private final History history = new History();
    private final Line[] slots = new Line[SLOTS];
    private final boolean[] kept = new boolean[SLOTS];

    public LineBalls() {
        for (int i = 0; i < SLOTS; i++) {
            slots[i] = new Line();
        }
    }

    // ---- the input buffer ----

    public int append(int a, int b, int c, int d, int e) throws IllegalStateException {
        if (inputLength > MAX_INPUT - 20) {
            throw new IllegalStateException();
        }
        appendBytes(a);
        appendBytes(b);
        appendBytes(c);
        appendBytes(d);
        appendBytes(e);
        return inputLength;
    }

    private void appendBytes(int four) {
        for (int shift = 24; shift >= 0 && inputLength < MAX_INPUT; shift -= 8) {
            input[inputLength] = (byte) (four >> shift);
            inputLength++;
        }
    }

    public void truncate(int length) throws IllegalArgumentException {
        needRange(length, 0, inputLength);
        inputLength = length;
    }

    public int load() {
        errorCode = parser.parse(inputLength);
        errorPosition = errorCode == 0 ? NONE : parser.position();
        inputLength = 0;
        if (errorCode != 0) {
            return PARSE_ERROR;
        }
        history.remember(now);
        now.copyFrom(trial);
        return now.ballCount;
    }

    public int errorCode() {
        return errorCode;
    }

    public int errorPosition() {
        return errorPosition;
    }

    public int find() {
        int name = Parser.packName(input, 0, inputLength);
        inputLength = 0;
        return now.ballNamed(name);
    }

    // ---- what is ----

    public int property(int what) throws IllegalArgumentException {
        needRange(what, 0, 6);
        switch (what) {
            case 0:
                return now.cells;
            case 1:
                return now.ballCount;
            case 2:
                return now.postCount;
            case 3:
                return now.time;
            case 4:
                return now.log.size;
            case 5:
                return now.ballCount - now.movingBalls();
            default:
                return now.weights();
        }
    }

    public int ball(int ball, int what) throws IndexOutOfBoundsException, IllegalArgumentException {
        Ball one = needBall(ball);
        needRange(what, 0, 7);
        switch (what) {
            case 0:
                return one.cell;
            case 1:
                return one.speed;
            case 2:
                return one.weight;
            case 3:
                return one.saved;
            case 4:
                return one.went;
            case 5:
                return one.hits;
            case 6:
                return one.bounces;
            default:
                return one.waits;
        }
    }

    public int at(int cell) throws IndexOutOfBoundsException {
        needCell(cell);
        return now.ballAt(cell);
    }

    public int post(int post, int what) throws IndexOutOfBoundsException, IllegalArgumentException {
        if (post < 0) {
            throw new IndexOutOfBoundsException();
        }
        Barrier one = needBarrier(post);
        needRange(what, 0, 2);
        if (what == 0) {
            return one.cell;
        }
        return what == 1 ? one.steals : one.bounces;
    }

    public int wall(boolean right, int what) throws IllegalArgumentException {
        needRange(what, 0, 1);
        Barrier one = right ? now.rightWall : now.leftWall;
        return what == 0 ? one.steals : one.bounces;
    }

    public int placed(int place) throws NoSuchElementException {
        if (place < 0 || place >= now.ballCount) {
            throw new NoSuchElementException();
        }
        return now.order[place];
    }

    public int neighbour(int ball, boolean right) throws IndexOutOfBoundsException {
        Ball one = needBall(ball);
        int side = right ? 1 : -1;
        return now.ballAt(one.cell + side * (now.freeCells(one.cell, side) + 1));
    }

    public int room(int ball, boolean right) throws IndexOutOfBoundsException {
        Ball one = needBall(ball);
        return now.freeCells(one.cell, right ? 1 : -1);
    }

    public int hits(int ball, int other) throws IndexOutOfBoundsException {
        needBall(ball);
        needBall(other);
        return now.book.hitsOf(ball, other);
    }

    public int logged(int index, int what) throws IndexOutOfBoundsException, IllegalArgumentException {
        if (index < 0 || index >= now.log.size) {
            throw new IndexOutOfBoundsException();
        }
        needRange(what, 0, 3);
        switch (what) {
            case 0:
                return now.log.timeOf(index);
            case 1:
                return ballOrNone(now.log.moverOf(index));
            case 2:
                return ballOrNone(now.log.otherOf(index));
            default:
                return now.log.amountOf(index);
        }
    }

    private static int ballOrNone(int entry) {
        return entry < 0 ? NONE : entry;
    }

    public long account(int what) throws IllegalArgumentException {
        needRange(what, 0, 4);
        switch (what) {
            case 0:
                return now.push();
            case 1:
                return now.energy();
            case 2:
                return now.book.got;
            case 3:
                return now.book.traded;
            default:
                return now.book.pushed;
        }
    }

    public int count(int what) throws IllegalArgumentException {
        needRange(what, 0, 3);
        switch (what) {
            case 0:
                return now.book.hits;
            case 1:
                return now.book.bounces;
            case 2:
                return now.book.waits;
            default:
                return now.book.went;
        }
    }

    public int fastest() {
        int best = NONE;
        int bestPace = -1;
        for (int i = 0; i < now.ballCount; i++) {
            int pace = now.balls[i].pace();
            if (pace > bestPace) {
                best = i;
                bestPace = pace;
            }
        }
        return best;
    }

    public int going(boolean right) {
        int set = 0;
        for (int i = 0; i < now.ballCount; i++) {
            int speed = now.balls[i].speed;
            if (right ? speed > 0 : speed < 0) {
                set |= 1 << i;
            }
        }
        return set;
    }

    // ---- what would be ----

    public int traded(int ball, int other, boolean second)
            throws IndexOutOfBoundsException, IllegalArgumentException {
        Ball one = needBall(ball);
        Ball two = needBall(other);
        if (ball == other) {
            throw new IllegalArgumentException();
        }
        boolean oneIsLeft = one.cell < two.cell;
        Ball left = oneIsLeft ? one : two;
        Ball right = oneIsLeft ? two : one;
        int k = Line.tradeSize(left, right);
        if (k == NONE) {
            return NO_SPEED;
        }
        boolean leftAsked = oneIsLeft != second;
        return leftAsked ? left.speed - k * left.stepAgainst(right) : right.speed + k * right.stepAgainst(left);
    }

    public int bounced(int ball, int steals) throws IndexOutOfBoundsException, IllegalArgumentException {
        Ball one = needBall(ball);
        needRange(steals, 0, MAX_STEALS);
        return one.speedBehindBounce(steals);
    }

    public int dueIn(int ball) throws IndexOutOfBoundsException {
        return needBall(ball).pulsesUntilDue();
    }

    public int hitIn() {
        return tryUntilHit();
    }

    public int nextHit(boolean second) {
        if (tryUntilHit() == NONE) {
            return NONE;
        }
        int entry = trial.log.firstHitAt(trial.time - 1);
        if (entry == NONE) {
            return NONE;
        }
        return second ? trial.log.otherOf(entry) : trial.log.moverOf(entry);
    }

    /** Runs the trial line to the end of the pulse of the next hit of two balls; in how many pulses that is. */
    private int tryUntilHit() {
        trial.copyFrom(now);
        for (int pulses = 1; pulses <= FORESEEN; pulses++) {
            if (trial.passPulses(1) > 0) {
                return pulses;
            }
        }
        return NONE;
    }

    public int ballHitIn(int ball) throws IndexOutOfBoundsException {
        Ball one = needBall(ball);
        trial.copyFrom(now);
        for (int pulses = 1; pulses <= FORESEEN; pulses++) {
            trial.passPulses(1);
            if (trial.balls[ball].hits != one.hits) {
                return pulses;
            }
        }
        return NONE;
    }

    public int cellIn(int ball, int ticks) throws IndexOutOfBoundsException, IllegalArgumentException {
        needBall(ball);
        tryTicks(ticks);
        return trial.balls[ball].cell;
    }

    public int speedIn(int ball, int ticks) throws IndexOutOfBoundsException, IllegalArgumentException {
        needBall(ball);
        tryTicks(ticks);
        return trial.balls[ball].speed;
    }

    public int hitsIn(int ticks) throws IllegalArgumentException {
        tryTicks(ticks);
        return trial.book.hits - now.book.hits;
    }

    public int bouncesIn(int ticks) throws IllegalArgumentException {
        tryTicks(ticks);
        return trial.book.bounces - now.book.bounces;
    }

    public long energyIn(int ticks) throws IllegalArgumentException {
        tryTicks(ticks);
        return trial.energy();
    }

    private void tryTicks(int ticks) {
        needRange(ticks, 0, MAX_TICKS);
        trial.copyFrom(now);
        trial.passPulses(ticks * TICK);
    }

    public int calmIn() {
        trial.copyFrom(now);
        for (int ticks = 0; ticks <= MAX_TICKS; ticks++) {
            if (trial.movingBalls() == 0) {
                return ticks;
            }
            trial.passPulses(TICK);
        }
        return NONE;
    }

    public long energyIf(boolean wall, int steals, int ticks) throws IllegalArgumentException {
        needRange(steals, 0, MAX_STEALS);
        needRange(ticks, 0, MAX_TICKS);
        trial.copyFrom(now);
        Barrier changed = wall ? trial.rightWall : trial.leftWall;
        changed.steals = steals;
        trial.passPulses(ticks * TICK);
        return trial.energy();
    }

    // ---- means ----

    public double meanSpeed() {
        if (now.ballCount == 0) {
            return 0.0;
        }
        int sum = 0;
        for (int i = 0; i < now.ballCount; i++) {
            sum += now.balls[i].pace();
        }
        return (double) sum / (double) now.ballCount;
    }

    public float share(int ball) throws IndexOutOfBoundsException {
        Ball one = needBall(ball);
        int all = now.energy();
        if (all == 0) {
            return 0.0f;
        }
        return (float) one.energy() / (float) all;
    }

    public double middle() {
        int weights = now.weights();
        if (weights == 0) {
            return -1.0;
        }
        int sum = 0;
        for (int i = 0; i < now.ballCount; i++) {
            sum += now.balls[i].cell * now.balls[i].weight;
        }
        return (double) sum / (double) weights;
    }

    // ---- changes ----

    public int pulse(int pulses) throws IllegalArgumentException {
        needRange(pulses, 1, MAX_PULSES);
        history.remember(now);
        return now.passPulses(pulses);
    }

    public int tick(int ticks) throws IllegalArgumentException {
        needRange(ticks, 1, MAX_TICKS);
        history.remember(now);
        return now.passPulses(ticks * TICK);
    }

    public int kick(int ball, int by) throws IndexOutOfBoundsException, IllegalArgumentException {
        Ball one = needBall(ball);
        needRange(by, -MAX_SPEED, MAX_SPEED);
        history.remember(now);
        int before = now.push();
        one.speed = Math.max(-MAX_SPEED, Math.min(MAX_SPEED, one.speed + by));
        now.notePushSince(before);
        return one.speed;
    }

    public int setWeight(int ball, int weight) throws IndexOutOfBoundsException, IllegalArgumentException {
        Ball one = needBall(ball);
        needRange(weight, 1, MAX_WEIGHT);
        history.remember(now);
        int before = now.push();
        int previous = one.weight;
        one.weight = weight;
        now.notePushSince(before);
        return previous;
    }

    public int setSteal(int post, int steals) throws IndexOutOfBoundsException, IllegalArgumentException {
        Barrier one = needBarrier(post);
        needRange(steals, 0, MAX_STEALS);
        history.remember(now);
        int previous = one.steals;
        one.steals = steals;
        return previous;
    }

    public int addBall(int cell, int speed, int weight)
            throws IndexOutOfBoundsException, IllegalArgumentException, IllegalStateException {
        needCell(cell);
        needRange(speed, -MAX_SPEED, MAX_SPEED);
        needRange(weight, 1, MAX_WEIGHT);
        if (now.ballCount >= MAX_BALLS || now.taken(cell)) {
            throw new IllegalStateException();
        }
        history.remember(now);
        int before = now.push();
        now.putBall(0, cell, speed, weight);
        now.notePushSince(before);
        return now.ballCount - 1;
    }

    public int removeBall(int ball) throws IndexOutOfBoundsException {
        needBall(ball);
        history.remember(now);
        int before = now.push();
        now.dropBall(ball);
        now.notePushSince(before);
        return now.ballCount;
    }

    public int turn(int ball) throws IndexOutOfBoundsException {
        Ball one = needBall(ball);
        history.remember(now);
        int before = now.push();
        one.speed = -one.speed;
        now.notePushSince(before);
        return one.speed;
    }

    public int stop() {
        history.remember(now);
        int before = now.push();
        int moving = now.movingBalls();
        for (int i = 0; i < now.ballCount; i++) {
            now.balls[i].speed = 0;
        }
        now.notePushSince(before);
        return moving;
    }

    public int place(int ball, int cell) throws IndexOutOfBoundsException, IllegalStateException {
        Ball one = needBall(ball);
        needCell(cell);
        if (cell != one.cell && now.taken(cell)) {
            throw new IllegalStateException();
        }
        history.remember(now);
        int previous = one.cell;
        one.cell = cell;
        now.sortByCell();
        return previous;
    }

    public int keep(int slot) throws IndexOutOfBoundsException {
        needSlot(slot);
        slots[slot].copyFrom(now);
        kept[slot] = true;
        return now.time;
    }

    public int restore(int slot) throws IndexOutOfBoundsException, IllegalStateException {
        needSlot(slot);
        if (!kept[slot]) {
            throw new IllegalStateException();
        }
        history.remember(now);
        now.copyFrom(slots[slot]);
        return now.time;
    }

    public int undo() throws IllegalStateException {
        if (history.count == 0) {
            throw new IllegalStateException();
        }
        history.bringBack(now);
        return history.count;
    }

    public int undoCount() {
        return history.count;
    }

    // ---- the output buffer ----

    public int writeLine() {
        output.length = 0;
        for (int cell = 0; cell < now.cells; cell++) {
            int ball = now.ballAt(cell);
            if (ball != NONE) {
                output.putNumber(ball);
            } else {
                output.put(now.taken(cell) ? '#' : '.');
            }
        }
        return output.length;
    }

    public int writeBalls() {
        output.length = 0;
        for (int i = 0; i < now.ballCount; i++) {
            output.putSpaceBetween();
            Ball one = now.balls[now.order[i]];
            output.putNumber(now.order[i]);
            output.put('@');
            output.putNumber(one.cell);
            output.put(':');
            output.putNumber(one.speed);
        }
        return output.length;
    }

    public int writeLog() {
        output.length = 0;
        Log log = now.log;
        for (int index = Math.min(log.size, WRITTEN_LOG) - 1; index >= 0; index--) {
            output.putSpaceBetween();
            putLogged(log.moverOf(index));
            int other = log.otherOf(index);
            if (other == Log.BARRIER) {
                output.put('|');
            } else {
                output.put('x');
                putLogged(other);
            }
            output.put('/');
            output.putNumber(log.amountOf(index));
        }
        return output.length;
    }

    private void putLogged(int ball) {
        if (ball < 0) {
            output.put('?');
        } else {
            output.putNumber(ball);
        }
    }

    public int outputByte(int index) throws NoSuchElementException {
        if (index < 0 || index >= output.length) {
            throw new NoSuchElementException();
        }
        return output.bytes[index];
    }

    // ---- what calls refuse ----

    private static void needRange(int value, int low, int high) {
        if (value < low || value > high) {
            throw new IllegalArgumentException();
        }
    }

    private Ball needBall(int ball) {
        if (ball < 0 || ball >= now.ballCount) {
            throw new IndexOutOfBoundsException();
        }
        return now.balls[ball];
    }

    private void needCell(int cell) {
        if (cell < 0 || cell >= now.cells) {
            throw new IndexOutOfBoundsException();
        }
    }

    private static void needSlot(int slot) {
        if (slot < 0 || slot >= SLOTS) {
            throw new IndexOutOfBoundsException();
        }
    }

    /** The post with this number, or the left wall for -1, the right one for -2. */
    private Barrier needBarrier(int post) {
        if (post < -2 || post >= now.postCount) {
            throw new IndexOutOfBoundsException();
        }
        if (post >= 0) {
            return now.posts[post];
        }
        return post == -1 ? now.leftWall : now.rightWall;
    }

    /** One ball, and what is known of it alone. */
    private static final class Ball {
        int name;
        int cell;
        int speed;
        int weight;
        int saved;
        int went;
        int hits;
        int bounces;
        int waits;
        // These two hold within one pulse only: the side to which it is due (-1, 1, or 0), and whether it has been hit.
        int dueSide;
        boolean struck;

        void begin(int newName, int newCell, int newSpeed, int newWeight) {
            name = newName;
            cell = newCell;
            speed = newSpeed;
            weight = newWeight;
            saved = 0;
            went = 0;
            hits = 0;
            bounces = 0;
            waits = 0;
        }

        void copyFrom(Ball from) {
            name = from.name;
            cell = from.cell;
            speed = from.speed;
            weight = from.weight;
            saved = from.saved;
            went = from.went;
            hits = from.hits;
            bounces = from.bounces;
            waits = from.waits;
        }

        int pace() {
            return speed < 0 ? -speed : speed;
        }

        int push() {
            return weight * speed;
        }

        int energy() {
            return weight * speed * speed;
        }

        int speedBehindBounce(int steals) {
            int pace = pace();
            int rest = pace - pace * steals / 100;
            return speed > 0 ? -rest : rest;
        }

        /**
         * How much its speed changes for each 1 of the document's k, when it hits the other one: the
         * other's weight divided by the greatest common divisor of both.
         */
        int stepAgainst(Ball other) {
            for (int divisor = weight; divisor > 1; divisor--) {
                if (weight % divisor == 0 && other.weight % divisor == 0) {
                    return other.weight / divisor;
                }
            }
            return other.weight;
        }

        int pulsesUntilDue() {
            int pace = pace();
            if (pace == 0) {
                return NONE;
            }
            return (DUE - saved + pace - 1) / pace;
        }

        /** Begins a pulse: saves the speed; whether the ball is due by that. */
        boolean save() {
            dueSide = 0;
            struck = false;
            saved += pace();
            if (saved < DUE) {
                return false;
            }
            saved -= DUE;
            dueSide = speed > 0 ? 1 : -1;
            return true;
        }
    }

    /** A wall or a post. */
    private static final class Barrier {
        int cell;
        int steals;
        int bounces;

        void begin(int newCell, int newSteals) {
            cell = newCell;
            steals = newSteals;
            bounces = 0;
        }

        void copyFrom(Barrier from) {
            cell = from.cell;
            steals = from.steals;
            bounces = from.bounces;
        }
    }

    /** The last hits and bounces; index 0 is the latest one. */
    private static final class Log {
        static final int BARRIER = -1;
        static final int REMOVED = -2;

        private final int[] times = new int[MAX_LOG];
        private final int[] movers = new int[MAX_LOG];
        private final int[] others = new int[MAX_LOG];
        private final int[] amounts = new int[MAX_LOG];
        private int next;
        int size;

        void clear() {
            next = 0;
            size = 0;
        }

        void copyFrom(Log from) {
            System.arraycopy(from.times, 0, times, 0, MAX_LOG);
            System.arraycopy(from.movers, 0, movers, 0, MAX_LOG);
            System.arraycopy(from.others, 0, others, 0, MAX_LOG);
            System.arraycopy(from.amounts, 0, amounts, 0, MAX_LOG);
            next = from.next;
            size = from.size;
        }

        void add(int time, int mover, int other, int amount) {
            times[next] = time;
            movers[next] = mover;
            others[next] = other;
            amounts[next] = amount;
            next = (next + 1) % MAX_LOG;
            size = Math.min(size + 1, MAX_LOG);
        }

        private int slotOf(int index) {
            return Math.floorMod(next - 1 - index, MAX_LOG);
        }

        int timeOf(int index) {
            return times[slotOf(index)];
        }

        int moverOf(int index) {
            return movers[slotOf(index)];
        }

        int otherOf(int index) {
            return others[slotOf(index)];
        }

        int amountOf(int index) {
            return amounts[slotOf(index)];
        }

        /** The earliest hit of two balls at this time, NONE if there is none. */
        int firstHitAt(int time) {
            for (int index = size - 1; index >= 0; index--) {
                if (timeOf(index) == time && otherOf(index) >= 0) {
                    return index;
                }
            }
            return NONE;
        }

        void dropBall(int ball) {
            for (int i = 0; i < MAX_LOG; i++) {
                movers[i] = renumbered(movers[i], ball);
                others[i] = renumbered(others[i], ball);
            }
        }

        private static int renumbered(int entry, int removed) {
            if (entry == removed) {
                return REMOVED;
            }
            return entry > removed ? entry - 1 : entry;
        }
    }

    /** The accounts and counts since the last text, and the hits of each pair. */
    private static final class Book {
        private final int[] pairs = new int[MAX_BALLS * MAX_BALLS];
        long got;
        long traded;
        long pushed;
        int hits;
        int bounces;
        int waits;
        int went;

        void clear() {
            for (int i = 0; i < pairs.length; i++) {
                pairs[i] = 0;
            }
            got = 0;
            traded = 0;
            pushed = 0;
            hits = 0;
            bounces = 0;
            waits = 0;
            went = 0;
        }

        void copyFrom(Book from) {
            System.arraycopy(from.pairs, 0, pairs, 0, pairs.length);
            got = from.got;
            traded = from.traded;
            pushed = from.pushed;
            hits = from.hits;
            bounces = from.bounces;
            waits = from.waits;
            went = from.went;
        }

        int hitsOf(int ball, int other) {
            return pairs[ball * MAX_BALLS + other];
        }

        void noteHit(int ball, int other) {
            hits++;
            pairs[ball * MAX_BALLS + other]++;
            pairs[other * MAX_BALLS + ball]++;
        }

        void dropBall(int ball) {
            for (int a = 0; a < MAX_BALLS; a++) {
                for (int b = 0; b < MAX_BALLS; b++) {
                    pairs[a * MAX_BALLS + b] = pairBehind(a < ball ? a : a + 1, b < ball ? b : b + 1);
                }
            }
        }

        // Behind the last number there is nobody, so that a ball added later begins with no hits.
        private int pairBehind(int a, int b) {
            return a < MAX_BALLS && b < MAX_BALLS ? hitsOf(a, b) : 0;
        }
    }

    /** The line with all that stands on it and all that is written down of it: what undo() restores. */
    private static final class Line {
        int cells;
        int time;
        final Ball[] balls = new Ball[MAX_BALLS];
        int ballCount;
        // The numbers of the balls, lowest cell first. A pulse keeps it: no ball passes another one.
        final int[] order = new int[MAX_BALLS];
        final Barrier[] posts = new Barrier[MAX_POSTS];
        int postCount;
        final Barrier leftWall = new Barrier();
        final Barrier rightWall = new Barrier();
        final Log log = new Log();
        final Book book = new Book();

        Line() {
            for (int i = 0; i < MAX_BALLS; i++) {
                balls[i] = new Ball();
            }
            for (int i = 0; i < MAX_POSTS; i++) {
                posts[i] = new Barrier();
            }
            clear(MIN_CELLS, 0, 0);
        }

        void clear(int newCells, int leftSteals, int rightSteals) {
            cells = newCells;
            time = 0;
            ballCount = 0;
            postCount = 0;
            leftWall.begin(-1, leftSteals);
            rightWall.begin(newCells, rightSteals);
            log.clear();
            book.clear();
        }

        void copyFrom(Line from) {
            cells = from.cells;
            time = from.time;
            ballCount = from.ballCount;
            for (int i = 0; i < MAX_BALLS; i++) {
                balls[i].copyFrom(from.balls[i]);
                order[i] = from.order[i];
            }
            postCount = from.postCount;
            for (int i = 0; i < MAX_POSTS; i++) {
                posts[i].copyFrom(from.posts[i]);
            }
            leftWall.copyFrom(from.leftWall);
            rightWall.copyFrom(from.rightWall);
            log.copyFrom(from.log);
            book.copyFrom(from.book);
        }

        // -- what stands where --

        int ballAt(int cell) {
            for (int i = 0; i < ballCount; i++) {
                if (balls[i].cell == cell) {
                    return i;
                }
            }
            return NONE;
        }

        /** The ball with this packed name; 0 is the name of none. */
        int ballNamed(int name) {
            for (int i = 0; i < ballCount && name != 0; i++) {
                if (balls[i].name == name) {
                    return i;
                }
            }
            return NONE;
        }

        /** The wall or post there, or null. */
        Barrier barrierAt(int cell) {
            if (cell < 0) {
                return leftWall;
            }
            if (cell >= cells) {
                return rightWall;
            }
            for (int i = 0; i < postCount; i++) {
                if (posts[i].cell == cell) {
                    return posts[i];
                }
            }
            return null;
        }

        boolean taken(int cell) {
            return barrierAt(cell) != null || ballAt(cell) != NONE;
        }

        /** How many cells are free behind this one, on the side -1 or 1. */
        int freeCells(int cell, int side) {
            int free = 0;
            while (free < cells && !taken(cell + side * (free + 1))) {
                free++;
            }
            return free;
        }

        // -- sums --

        int movingBalls() {
            int moving = 0;
            for (int i = 0; i < ballCount; i++) {
                if (balls[i].speed != 0) {
                    moving++;
                }
            }
            return moving;
        }

        int weights() {
            int sum = 0;
            for (int i = 0; i < ballCount; i++) {
                sum += balls[i].weight;
            }
            return sum;
        }

        int push() {
            int sum = 0;
            for (int i = 0; i < ballCount; i++) {
                sum += balls[i].push();
            }
            return sum;
        }

        int energy() {
            int sum = 0;
            for (int i = 0; i < ballCount; i++) {
                sum += balls[i].energy();
            }
            return sum;
        }

        void notePushSince(int before) {
            book.pushed += push() - before;
        }

        // -- balls and posts come and go --

        void putPost(int cell, int steals) {
            if (postCount < MAX_POSTS) {
                posts[postCount].begin(cell, steals);
                postCount++;
            }
        }

        void putBall(int name, int cell, int speed, int weight) {
            if (ballCount < MAX_BALLS) {
                balls[ballCount].begin(name, cell, speed, weight);
                ballCount++;
                sortByCell();
            }
        }

        void dropBall(int ball) {
            for (int i = ball; i + 1 < ballCount; i++) {
                balls[i].copyFrom(balls[i + 1]);
            }
            ballCount--;
            sortByCell();
            log.dropBall(ball);
            book.dropBall(ball);
        }

        void sortByCell() {
            for (int i = 0; i < ballCount; i++) {
                int place = i;
                while (place > 0 && balls[order[place - 1]].cell > balls[i].cell) {
                    order[place] = order[place - 1];
                    place--;
                }
                order[place] = i;
            }
        }

        // -- pulses --

        /** Pulses pass; how many hits of balls there were. */
        int passPulses(int pulses) {
            int before = book.hits;
            for (int i = 0; i < pulses; i++) {
                if (beginPulse()) {
                    for (int place = 0; place < ballCount; place++) {
                        takeTurn(place, -1);
                    }
                    for (int place = ballCount - 1; place >= 0; place--) {
                        takeTurn(place, 1);
                    }
                }
                time++;
            }
            return book.hits - before;
        }

        /** The balls save; whether any is due. */
        private boolean beginPulse() {
            boolean anyDue = false;
            for (int i = 0; i < ballCount; i++) {
                if (balls[i].save()) {
                    anyDue = true;
                }
            }
            return anyDue;
        }

        private void takeTurn(int place, int side) {
            int mover = order[place];
            Ball ball = balls[mover];
            if (ball.dueSide != side || ball.struck) {
                return;
            }
            int target = ball.cell + side;
            Barrier barrier = barrierAt(target);
            if (barrier != null) {
                bounce(mover, barrier);
                return;
            }
            int beside = place + side;
            if (beside >= 0 && beside < ballCount && balls[order[beside]].cell == target) {
                meet(mover, order[beside], side);
                return;
            }
            ball.cell = target;
            ball.went++;
            book.went++;
        }

        private void bounce(int mover, Barrier barrier) {
            Ball ball = balls[mover];
            int paceBefore = ball.pace();
            int pushBefore = ball.push();
            ball.speed = ball.speedBehindBounce(barrier.steals);
            ball.bounces++;
            barrier.bounces++;
            book.bounces++;
            book.got += pushBefore - ball.push();
            log.add(time, mover, Log.BARRIER, paceBefore - ball.pace());
        }

        private void meet(int mover, int other, int side) {
            Ball left = balls[side > 0 ? mover : other];
            Ball right = balls[side > 0 ? other : mover];
            int k = tradeSize(left, right);
            if (k == NONE) {
                balls[mover].waits++;
                book.waits++;
                return;
            }
            int pushBefore = right.push();
            left.speed -= k * left.stepAgainst(right);
            right.speed += k * right.stepAgainst(left);
            book.traded += right.push() - pushBefore;
            left.hits++;
            right.hits++;
            left.struck = true;
            right.struck = true;
            book.noteHit(mover, other);
            log.add(time, mover, other, k);
        }

        /** The document's k; NONE if they would not hit, as the left one is not faster. */
        static int tradeSize(Ball left, Ball right) {
            int gap = left.speed - right.speed;
            if (gap <= 0) {
                return NONE;
            }
            int leftStep = left.stepAgainst(right);
            int rightStep = right.stepAgainst(left);
            int parts = leftStep + rightStep;
            int k = parts > 0 ? Math.max(1, 2 * gap / parts) : 1;
            // The left one only loses and the right one only gains: no other bounds can be passed.
            while (k > 0 && (left.speed - k * leftStep < -MAX_SPEED || right.speed + k * rightStep > MAX_SPEED)) {
                k--;
            }
            return k;
        }
    }

    /** The calls that can be undone: the line as it was ahead of each, in a ring. */
    private static final class History {
        private final Line[] past = new Line[MAX_PAST];
        private int first;
        int count;

        History() {
            for (int i = 0; i < MAX_PAST; i++) {
                past[i] = new Line();
            }
        }

        void remember(Line line) {
            past[(first + count) % MAX_PAST].copyFrom(line);
            if (count < MAX_PAST) {
                count++;
            } else {
                first = (first + 1) % MAX_PAST;
            }
        }

        void bringBack(Line line) {
            if (count > 0) {
                count--;
                line.copyFrom(past[(first + count) % MAX_PAST]);
            }
        }
    }

    /** Reads a text into a line, token by token; it stops at the first token that has an error. */
    private static final class Parser {
        private static final int END = 0;
        private static final int WORD = 1;
        private static final int NUMBER = 2;
        private static final int SYMBOL = 3;
        private static final int BETWEEN = 4;

        private static final int MISPLACED = 1;
        private static final int OUT_OF_RANGE = 2;
        private static final int NAME_TAKEN = 3;
        private static final int CELL_TAKEN = 4;
        private static final int TOO_MANY = 5;

        // Far above each range, so that a number of any length may stop growing there.
        private static final int HUGE = 1000000;

        private final byte[] text;
        private final Line line;
        private int length;
        // The current token: what it is, its first byte, the byte behind it.
        private int kind;
        private int start;
        private int end;
        private int error;

        Parser(byte[] text, Line line) {
            this.text = text;
            this.line = line;
        }

        /** The code of the first error; 0 if there is none, and the line is that of the text then. */
        int parse(int textLength) {
            length = Math.min(textLength, text.length);
            error = 0;
            end = 0;
            nextToken();
            parseBox();
            // Each statement takes one byte at least.
            for (int i = 0; i < length && error == 0 && kind != END; i++) {
                if (isWord("post")) {
                    parsePost();
                } else if (isWord("ball")) {
                    parseBall();
                } else {
                    fail(MISPLACED);
                }
            }
            return error;
        }

        /** The offset of the token that has the error. */
        int position() {
            return start;
        }

        // -- statements --

        private void parseBox() {
            takeWord("box");
            int cells = takeNumber(MIN_CELLS, MAX_CELLS);
            int leftSteals = 0;
            int rightSteals = 0;
            if (isWord("steal")) {
                takeWord("steal");
                leftSteals = takeNumber(0, MAX_STEALS);
                rightSteals = takeNumber(0, MAX_STEALS);
            }
            takeSemicolon();
            if (error == 0) {
                line.clear(cells, leftSteals, rightSteals);
            }
        }

        private void parsePost() {
            if (line.postCount >= MAX_POSTS) {
                fail(TOO_MANY);
            }
            takeWord("post");
            int cell = takeCell();
            takeWord("steal");
            int steals = takeNumber(0, MAX_STEALS);
            takeSemicolon();
            if (error == 0) {
                line.putPost(cell, steals);
            }
        }

        private void parseBall() {
            if (line.ballCount >= MAX_BALLS) {
                fail(TOO_MANY);
            }
            takeWord("ball");
            int name = takeName();
            takeWord("at");
            int cell = takeCell();
            takeWord("speed");
            int speed = takeSpeed();
            takeWord("weight");
            int weight = takeNumber(1, MAX_WEIGHT);
            takeSemicolon();
            if (error == 0) {
                line.putBall(name, cell, speed, weight);
            }
        }

        // -- parts of statements: behind an error none of these moves on, and no later error counts --

        private void fail(int code) {
            if (error == 0) {
                error = code;
            }
        }

        private void takeWord(String word) {
            if (!isWord(word)) {
                fail(MISPLACED);
            }
            nextToken();
        }

        private void takeSemicolon() {
            if (!isSymbol(';')) {
                fail(MISPLACED);
            }
            nextToken();
        }

        private int takeNumber(int low, int high) {
            int number = checkedNumber(low, high);
            nextToken();
            return number;
        }

        private int takeCell() {
            int cell = checkedNumber(0, line.cells - 1);
            if (line.taken(cell)) {
                fail(CELL_TAKEN);
            }
            nextToken();
            return cell;
        }

        private int takeSpeed() {
            boolean below = isSymbol('-');
            if (below) {
                nextToken();
            }
            int pace = takeNumber(0, MAX_SPEED);
            return below ? -pace : pace;
        }

        private int takeName() {
            int name = packName(text, start, end);
            if (name == 0 || isKeyword()) {
                fail(MISPLACED);
            }
            if (line.ballNamed(name) != NONE) {
                fail(NAME_TAKEN);
            }
            nextToken();
            return name;
        }

        private int checkedNumber(int low, int high) {
            if (kind != NUMBER) {
                fail(MISPLACED);
                return low;
            }
            int number = 0;
            for (int i = start; i < end && number < HUGE; i++) {
                number = number * 10 + text[i] - '0';
            }
            if (number < low || number > high) {
                fail(OUT_OF_RANGE);
            }
            return number;
        }

        private boolean isKeyword() {
            return isWord("box") || isWord("steal") || isWord("post") || isWord("ball")
                    || isWord("at") || isWord("speed") || isWord("weight");
        }

        private boolean isWord(String word) {
            if (kind != WORD || end - start != word.length()) {
                return false;
            }
            for (int i = start; i < end; i++) {
                if (text[i] != word.charAt(i - start)) {
                    return false;
                }
            }
            return true;
        }

        private boolean isSymbol(char symbol) {
            return kind == SYMBOL && start < length && text[start] == symbol;
        }

        // -- tokens --

        /** Goes on to the next token, but not behind an error: its token stays the current one. */
        private void nextToken() {
            if (error != 0) {
                return;
            }
            start = end;
            while (start < length && kindAt(start) == BETWEEN) {
                start++;
            }
            kind = kindAt(start);
            end = Math.min(start + 1, length);
            while (end < length && kind != SYMBOL && kindAt(end) == kind) {
                end++;
            }
        }

        /** To what kind of token the byte belongs. */
        private int kindAt(int index) {
            if (index < 0 || index >= length) {
                return END;
            }
            int sign = text[index];
            if (sign == ' ' || sign == '\n') {
                return BETWEEN;
            }
            if (sign >= 'a' && sign <= 'z') {
                return WORD;
            }
            return sign >= '0' && sign <= '9' ? NUMBER : SYMBOL;
        }

        /** The letters as digits to the base 27, so that names compare as numbers; 0 if these bytes are no name. */
        static int packName(byte[] bytes, int from, int to) {
            if (from < 0 || to > bytes.length || to - from > MAX_NAME) {
                return 0;
            }
            int packed = 0;
            for (int i = from; i < to; i++) {
                if (bytes[i] < 'a' || bytes[i] > 'z') {
                    return 0;
                }
                packed = packed * 27 + bytes[i] - 'a' + 1;
            }
            return packed;
        }
    }

    /** The output buffer. */
    private static final class Output {
        final byte[] bytes = new byte[MAX_OUTPUT];
        int length;

        void put(int sign) {
            if (length < bytes.length) {
                bytes[length] = (byte) sign;
                length++;
            }
        }

        void putSpaceBetween() {
            if (length > 0) {
                put(' ');
            }
        }

        /** Three digits are enough: cells go to 199, speeds to 60, the numbers of the log to 120. */
        void putNumber(int number) {
            if (number < 0) {
                put('-');
            }
            int rest = number < 0 ? -number : number;
            if (rest >= 100) {
                put('0' + rest / 100 % 10);
            }
            if (rest >= 10) {
                put('0' + rest / 10 % 10);
            }
            put('0' + rest % 10);
        }
    }
}
