/** Block automata on a grid that is closed round. README.md tells how it is used. */
public final class BlockCells {
    public static final int NONE = -1, BAD = -2, STATE = -3, FULL = -4;
    public static final long NO = Long.MIN_VALUE;

    private static final int NEVER = -5, NOTHING = -11, PLACE = -13, SIZE = -14;
    private static final int FAULT_AT = -100, ODD_SIDES = -500;
    private static final int TIME_SHIFT = 10000, LAST_TIME = 9999, SUM_SHIFT = 1000000;
    private static final int LONGEST_SIDE = 16, ALL_STATES = 16, ALL_CELLS = 256;
    private static final int WORDS = 5, BALL = 4;
    private static final int RULE_EVENT = 0, STEPS_EVENT = 1, CELL_EVENT = 2;
    private static final int MOST_STEPS = 200, MOST_THOUGHT = 60, MOST_SEEN_STEPS = 12, MOST_EVENT_STEPS = 20;
    private static final int MOST_AGAIN = 128, MOST_MOVED = 64, MOST_UNLIKE = 64;
    private static final int MOST_CHANGES = 12, MOST_SEEN = 5, MOST_EVENTS = 8;
    private static final int MOST_TAPE = 300, MOST_PAPER = 271;
    private static final int LISTS = 4, MOST_LONGS = 20;
    // No two things share one of the 2 by 2 blocks, so there are at most 64.
    private static final int MOST_THINGS = 64;
    private static final int EVEN_COLUMNS = 0x5555, ODD_COLUMNS = 0xAAAA;

    private final Whole now = new Whole();
    private final Whole taken = new Whole();
    private boolean isTaken = false;
    private final Table changes = new Table(MOST_CHANGES);
    private final Ahead ahead = new Ahead();
    private final Things things = new Things();
    private final Text tape = new Text(MOST_TAPE);
    private final Text written = new Text(MOST_PAPER);
    private final Row[] rows = new Row[LISTS];

    public BlockCells() {
        for (int i = 0; i < rows.length; i++) rows[i] = new Row();
    }

    // ---- the grid

    public int size(int w, int h) {
        if (!isSide(w) || !isSide(h)) return BAD;
        int before = 100 * now.grid.width + now.grid.height;
        now.grid.becomeEmpty(w, h);
        now.grid.time = 0;
        changes.empty();
        return before;
    }

    public int toggle(int x, int y) {
        if (!now.grid.has(x, y)) return NONE;
        now.grid.flip(x, y);
        if (changes.isFull()) changes.dropEldest();
        changes.add(x, y, now.grid.time);
        return now.grid.cellAt(x, y);
    }

    public int undo() {
        int latest = changes.many - 1;
        if (latest < 0 || changes.third(latest) != now.grid.time) return STATE;
        int x = changes.first(latest);
        int y = changes.second(latest);
        now.grid.flip(x, y);
        changes.dropLatest();
        return 100 * x + y;
    }

    public int cell(int x, int y) {
        return now.grid.has(x, y) ? now.grid.cellAt(x, y) : NONE;
    }

    public int told(int what) {
        switch (what) {
            case 0: return now.grid.width;
            case 1: return now.grid.height;
            case 2: return now.grid.time + TIME_SHIFT;
            case 3: return now.grid.phase();
            case 4: return now.grid.ones();
            case 5: return undoable();
            case 6: return thingsNow().many;
            case 7: return thingsNow().shapes;
            default: return NONE;
        }
    }

    // ---- rules, steps

    public int rule(int word) {
        if (word < 0 || word >= WORDS) return NONE;
        return now.rule.becomeWord(word) ? 1 : 0;
    }

    public int change(int i, int j) {
        if (!isState(i) || !isState(j) || i == j) return NONE;
        now.rule.exchange(i, j);
        return now.rule.next(i);
    }

    public int becomes(int state, boolean back) {
        if (!isState(state)) return NONE;
        return back ? now.rule.former(state) : now.rule.next(state);
    }

    public int steps(int n) {
        if (n < -MOST_STEPS || n > MOST_STEPS) return BAD;
        int end = now.grid.time + n;
        if (end < -LAST_TIME || end > LAST_TIME) return STATE;
        now.grid.go(n, now.rule);
        return end + TIME_SHIFT;
    }

    public int block(int x, int y) {
        if (!now.grid.has(x, y)) return NONE;
        return now.grid.stateAround(x, y);
    }

    // ---- in thought

    public int then(int x, int y, int n) {
        if (!now.grid.has(x, y)) return NONE;
        if (n < -MOST_THOUGHT || n > MOST_THOUGHT) return BAD;
        return ahead.cellThen(now.grid, now.rule, 100 * x + y, n);
    }

    public int sum(int a, int b, int c, int d) {
        if (!areWeights(a, b, c, d)) return BAD;
        return now.grid.weighed(a, b, c, d) + SUM_SHIFT;
    }

    public int kept(int a, int b, int c, int d) {
        if (!areWeights(a, b, c, d)) return BAD;
        return now.rule.keepsSum(a, b, c, d) ? 1 : 0;
    }

    public int again() {
        return ahead.stepsToSame(now.grid, now.rule);
    }

    public int moved(int what) {
        if (what < 0 || what > 2) return NONE;
        if (!ahead.findMove(now.grid, now.rule)) return NEVER;
        switch (what) {
            case 0: return ahead.moveSteps;
            case 1: return ahead.moveColumns;
            default: return ahead.moveRows;
        }
    }

    public int unlike(int n) {
        if (n < 0 || n > MOST_UNLIKE) return BAD;
        return ahead.unlikeGrids(now.grid, now.rule, n);
    }

    // ---- things

    public int thing(int k, int what) {
        Things seen = thingsNow();
        if (k < 0 || k >= seen.many) return NONE;
        switch (what) {
            case 0: return seen.cellsOf(k);
            case 1: return seen.firstCellOf(k);
            case 2: return seen.shapeOf(k);
            default: return NONE;
        }
    }

    public int thingAt(int x, int y) {
        if (!now.grid.has(x, y)) return NONE;
        return thingsNow().thingOn(x, y);
    }

    public int shape(int k, int what) {
        Things seen = thingsNow();
        if (k < 0 || k >= seen.shapes) return NONE;
        int model = seen.modelOf(k);
        switch (what) {
            case 0: return seen.thingsLike(k);
            case 1: return seen.cellsOf(model);
            case 2: return seen.firstCellOf(model);
            default: return NONE;
        }
    }

    // ---- texts, rows

    public int feed(int letter) {
        if (letter < 1 || letter > 127) return BAD;
        if (tape.isFull()) return FULL;
        tape.add(letter);
        return tape.many;
    }

    public int read() {
        int answer = readTape();
        tape.empty();
        return answer;
    }

    public int spell() {
        Grid grid = now.grid;
        written.empty();
        for (int y = 0; y < grid.height; y++) {
            if (y > 0) written.add('/');
            for (int x = 0; x < grid.width; x++) written.add(grid.cellAt(x, y) == 1 ? '#' : '.');
        }
        return written.many;
    }

    public int paper(int i) {
        if (i < 0) return NONE;
        return i < written.many ? written.byteAt(i) : NEVER;
    }

    public int list(int list, int n) {
        Row row = rowOf(list);
        if (row == null) return NONE;
        if (n > MOST_LONGS) return BAD;
        if (n < 0) return SIZE;
        row.becomeZeros(n);
        return 1;
    }

    public int set(int list, int i, long v) {
        Row row = rowOf(list);
        if (row == null) return NONE;
        if (row.isNothing()) return NOTHING;
        if (!row.has(i)) return PLACE;
        row.write(i, v);
        return 1;
    }

    public long get(int list, int i) {
        Row row = rowOf(list);
        return row != null && row.has(i) ? row.longAt(i) : NO;
    }

    public int lay(int list, int i) {
        Row row = rowOf(list);
        if (row == null) return NONE;
        if (row.isNothing()) return NOTHING;
        if (i < 0) return PLACE;
        for (int y = 0; y < now.grid.height; y++) {
            if (!row.has(i + y)) return PLACE;
            row.write(i + y, now.grid.rowAt(y));
        }
        return now.grid.height;
    }

    public int load(int list, int i) {
        Row row = rowOf(list);
        if (row == null) return NONE;
        if (row.isNothing()) return NOTHING;
        if (i < 0 || i > row.many - now.grid.height) return PLACE;
        for (int y = 0; y < now.grid.height; y++) now.grid.putRow(y, (int) row.longAt(i + y));
        changes.empty();
        return now.grid.ones();
    }

    public int judge(int list, int i) {
        Row row = rowOf(list);
        if (row == null) return NONE;
        for (int y = 0; y < now.grid.height; y++) {
            if (!row.has(i + y)) return 100 + y;
            if (row.longAt(i + y) != now.grid.rowAt(y)) return y;
        }
        return NEVER;
    }

    // ---- seen, events, the image

    public int see(int n, int cell, int v) {
        if (v == -1) {
            now.seen.empty();
            return 0;
        }
        if (n < -MOST_SEEN_STEPS || n > MOST_SEEN_STEPS || !isAnyCell(cell) || v < 0 || v > 1) return BAD;
        if (now.seen.isFull()) return FULL;
        now.seen.add(n, cell, v);
        return now.seen.many;
    }

    public int fits() {
        int words = 0;
        for (int word = 0; word < WORDS; word++) {
            if (ahead.isSeenBy(word, now)) words |= 1 << word;
        }
        return words;
    }

    public int event(int what, int n) {
        if (what == -1) {
            now.events.empty();
            return 0;
        }
        if (what < RULE_EVENT || what > CELL_EVENT) return NONE;
        if (!canHappen(what, n)) return BAD;
        if (now.events.isFull()) return FULL;
        now.events.add(what, n, 0);
        return now.events.many;
    }

    public int after(int what) {
        if (what < 0 || what > 1) return NONE;
        Grid grid = ahead.behindEvents(now);
        if (what == 0) return grid.ones();
        things.lookAt(grid);
        return things.many;
    }

    public int image() {
        taken.copyOf(now);
        isTaken = true;
        return now.grid.ones();
    }

    public int back() {
        if (!isTaken) return STATE;
        now.copyOf(taken);
        changes.empty();
        return now.grid.ones();
    }

    public int count(int what) {
        switch (what) {
            case 0: return now.seen.many;
            case 1: return now.events.many;
            case 2: return tape.many;
            case 3: return written.many;
            default: return BAD;
        }
    }

    // ---- what the calls above share

    private static boolean isSide(int n) {
        return n >= 2 && n <= LONGEST_SIDE && (n & 1) == 0;
    }

    private static boolean isState(int n) {
        return n >= 0 && n < ALL_STATES;
    }

    private static boolean isWeight(int n) {
        return n >= -9 && n <= 9;
    }

    private static boolean areWeights(int a, int b, int c, int d) {
        return isWeight(a) && isWeight(b) && isWeight(c) && isWeight(d);
    }

    /** Whether a grid of the longest sides has this cell (100 x and y). */
    private static boolean isAnyCell(int cell) {
        return cell >= 0 && cell / 100 < LONGEST_SIDE && cell % 100 < LONGEST_SIDE;
    }

    private boolean canHappen(int what, int n) {
        switch (what) {
            case RULE_EVENT: return n >= 0 && n < WORDS;
            case STEPS_EVENT: return n >= 0 && n <= MOST_EVENT_STEPS;
            default: return now.grid.has(n / 100, n % 100);
        }
    }

    private int undoable() {
        int many = 0;
        for (int i = changes.many - 1; i >= 0; i--) {
            if (changes.third(i) != now.grid.time) break;
            many++;
        }
        return many;
    }

    private Things thingsNow() {
        things.lookAt(now.grid);
        return things;
    }

    private Row rowOf(int list) {
        return list >= 0 && list < rows.length ? rows[list] : null;
    }

    private int readTape() {
        int place = tape.faultPlace();
        if (place >= 0) return FAULT_AT - place;
        int width = tape.firstRowLength();
        int height = tape.howManyRows();
        if (!isSide(width) || !isSide(height)) return ODD_SIDES;
        now.grid.becomeEmpty(width, height);
        fillFromTape();
        changes.empty();
        return now.grid.ones();
    }

    private void fillFromTape() {
        int x = 0;
        int y = 0;
        for (int i = 0; i < tape.many; i++) {
            if (tape.byteAt(i) == '/') {
                x = 0;
                y++;
            } else {
                if (tape.byteAt(i) == '#') now.grid.flip(x, y);
                x++;
            }
        }
    }

    // Every array of ints is used through these two: no index goes unlooked at.

    private static int at(int[] numbers, int i) {
        return i >= 0 && i < numbers.length ? numbers[i] : 0;
    }

    private static void put(int[] numbers, int i, int v) {
        if (i >= 0 && i < numbers.length) numbers[i] = v;
    }

    private static void copy(int[] from, int[] to) {
        for (int i = 0; i < from.length && i < to.length; i++) to[i] = from[i];
    }

    /** A place at most one length beyond either end, closed round. */
    private static int closedRound(int i, int length) {
        if (i < 0) return i + length;
        return i >= length ? i - length : i;
    }

    /** Cells and their time; of each row, cell x is bit x. */
    private static final class Grid {
        int width = 8;
        int height = 8;
        int time = 0;
        private final int[] bits = new int[LONGEST_SIDE];

        boolean has(int x, int y) {
            return x >= 0 && x < width && y >= 0 && y < height;
        }

        int rowAt(int y) {
            return at(bits, y);
        }

        void putRow(int y, int row) {
            put(bits, y, row & ((1 << width) - 1));
        }

        int cellAt(int x, int y) {
            return has(x, y) ? at(bits, y) >> x & 1 : 0;
        }

        void flip(int x, int y) {
            if (has(x, y)) put(bits, y, at(bits, y) ^ 1 << x);
        }

        int phase() {
            return time & 1;
        }

        int ones() {
            int many = 0;
            for (int y = 0; y < height; y++) many += Integer.bitCount(at(bits, y));
            return many;
        }

        int weighed(int a, int b, int c, int d) {
            int whole = 0;
            for (int y = 0; y < height; y++) {
                int even = Integer.bitCount(at(bits, y) & EVEN_COLUMNS);
                int odd = Integer.bitCount(at(bits, y) & ODD_COLUMNS);
                whole += (y & 1) == 0 ? a * even + b * odd : c * even + d * odd;
            }
            return whole;
        }

        void becomeEmpty(int w, int h) {
            width = w;
            height = h;
            for (int y = 0; y < bits.length; y++) bits[y] = 0;
        }

        void copyOf(Grid other) {
            width = other.width;
            height = other.height;
            time = other.time;
            copy(other.bits, bits);
        }

        boolean hasCellsOf(Grid other) {
            return isShifted(other, 0, 0);
        }

        /** Whether each cell x, y of the other one is cell x and dx, y and dy of this one. */
        boolean isShifted(Grid other, int dx, int dy) {
            for (int y = 0; y < height; y++) {
                int row = other.rowAt(y);
                int shifted = (row << dx | row >> (width - dx)) & ((1 << width) - 1);
                if (at(bits, closedRound(y + dy, height)) != shifted) return false;
            }
            return true;
        }

        int stateAround(int x, int y) {
            int left = closedRound(x - ((x ^ phase()) & 1), width);
            int top = closedRound(y - ((y ^ phase()) & 1), height);
            return stateOf(left, top);
        }

        private int stateOf(int left, int top) {
            int right = closedRound(left + 1, width);
            int upper = at(bits, top);
            int lower = at(bits, closedRound(top + 1, height));
            return pairOf(upper, left, right) | pairOf(lower, left, right) << 2;
        }

        private void putState(int left, int top, int state) {
            int right = closedRound(left + 1, width);
            int low = closedRound(top + 1, height);
            put(bits, top, withPair(at(bits, top), left, right, state));
            put(bits, low, withPair(at(bits, low), left, right, state >> 2));
        }

        private static int pairOf(int row, int left, int right) {
            return (row >> left & 1) | (row >> right & 1) << 1;
        }

        private static int withPair(int row, int left, int right, int pair) {
            int others = row & ~(1 << left | 1 << right);
            return others | (pair & 1) << left | (pair >> 1 & 1) << right;
        }

        private void turnBlocks(Rule rule, boolean backward) {
            for (int top = phase(); top < height; top += 2) {
                for (int left = phase(); left < width; left += 2) {
                    int state = stateOf(left, top);
                    putState(left, top, backward ? rule.former(state) : rule.next(state));
                }
            }
        }

        void go(int n, Rule rule) {
            for (int i = 0; i < n; i++) {
                turnBlocks(rule, false);
                time++;
            }
            for (int i = 0; i > n; i--) {
                // A step back goes by the phase of the lesser time.
                time--;
                turnBlocks(rule, true);
            }
        }
    }

    /** Of each state which it becomes, and which becomes it. */
    private static final class Rule {
        private final int[] nexts = new int[ALL_STATES];
        private final int[] formers = new int[ALL_STATES];

        Rule() {
            becomeWord(BALL);
        }

        int next(int state) {
            return at(nexts, state);
        }

        int former(int state) {
            return at(formers, state);
        }

        private void join(int state, int next) {
            put(nexts, state, next);
            put(formers, next, state);
        }

        /** Whether any state becomes another one than before. */
        boolean becomeWord(int word) {
            boolean isOther = false;
            for (int state = 0; state < ALL_STATES; state++) {
                int next = byWord(word, state);
                if (next != at(nexts, state)) isOther = true;
                join(state, next);
            }
            return isOther;
        }

        void exchange(int i, int j) {
            int nextOfI = next(i);
            join(i, next(j));
            join(j, nextOfI);
        }

        void copyOf(Rule other) {
            copy(other.nexts, nexts);
            copy(other.formers, formers);
        }

        boolean keepsSum(int a, int b, int c, int d) {
            for (int state = 0; state < ALL_STATES; state++) {
                int next = next(state);
                // By phase 1 a block's upper left cell is one with x and y odd.
                if (weightOf(state, a, b, c, d) != weightOf(next, a, b, c, d)) return false;
                if (weightOf(state, d, c, b, a) != weightOf(next, d, c, b, a)) return false;
            }
            return true;
        }

        private static int weightOf(int state, int a, int b, int c, int d) {
            return (state & 1) * a + (state >> 1 & 1) * b + (state >> 2 & 1) * c + (state >> 3 & 1) * d;
        }

        private static int byWord(int word, int state) {
            switch (word) {
                case 1: return (state & 1) << 1 | (state & 2) << 2 | (state & 4) >> 2 | (state & 8) >> 1;
                case 2: return (state & 1) << 2 | (state & 2) >> 1 | (state & 4) << 1 | (state & 8) >> 2;
                case 3: return state ^ 15;
                case BALL: return byBall(state);
                default: return state;
            }
        }

        private static int byBall(int state) {
            switch (state) {
                case 1: return 8;
                case 2: return 4;
                case 4: return 2;
                case 6: return 9;
                case 8: return 1;
                case 9: return 6;
                default: return state;
            }
        }
    }

    /** Rows of three numbers, the latest last. */
    private static final class Table {
        int many = 0;
        private final int[] numbers;

        Table(int most) {
            numbers = new int[3 * Math.max(most, 0)];
        }

        boolean isFull() {
            return 3 * many >= numbers.length;
        }

        void add(int first, int second, int third) {
            if (isFull()) return;
            put(numbers, 3 * many, first);
            put(numbers, 3 * many + 1, second);
            put(numbers, 3 * many + 2, third);
            many++;
        }

        int first(int i) {
            return at(numbers, 3 * i);
        }

        int second(int i) {
            return at(numbers, 3 * i + 1);
        }

        int third(int i) {
            return at(numbers, 3 * i + 2);
        }

        void dropLatest() {
            if (many > 0) many--;
        }

        void dropEldest() {
            for (int i = 3; i < numbers.length; i++) numbers[i - 3] = numbers[i];
            dropLatest();
        }

        void empty() {
            many = 0;
        }

        void copyOf(Table other) {
            copy(other.numbers, numbers);
            many = other.many;
        }
    }

    /** All that the image holds. */
    private static final class Whole {
        final Grid grid = new Grid();
        final Rule rule = new Rule();
        final Table seen = new Table(MOST_SEEN);
        final Table events = new Table(MOST_EVENTS);

        void copyOf(Whole other) {
            grid.copyOf(other.grid);
            rule.copyOf(other.rule);
            seen.copyOf(other.seen);
            events.copyOf(other.events);
        }
    }

    /** What would be: it goes on a grid and a rule of its own, made once. */
    private static final class Ahead {
        int moveSteps = 0;
        int moveColumns = 0;
        int moveRows = 0;
        private final Grid grid = new Grid();
        private final Rule rule = new Rule();
        private final int[] unlikeRows = new int[(MOST_UNLIKE + 1) * LONGEST_SIDE];
        private int unlikes = 0;

        int cellThen(Grid start, Rule by, int cell, int n) {
            grid.copyOf(start);
            grid.go(n, by);
            return grid.cellAt(cell / 100, cell % 100);
        }

        int stepsToSame(Grid start, Rule by) {
            grid.copyOf(start);
            for (int n = 2; n <= MOST_AGAIN; n += 2) {
                grid.go(2, by);
                if (grid.hasCellsOf(start)) return n;
            }
            return NEVER;
        }

        boolean findMove(Grid start, Rule by) {
            grid.copyOf(start);
            for (int n = 2; n <= MOST_MOVED; n += 2) {
                grid.go(2, by);
                if (isMoved(start)) {
                    moveSteps = n;
                    return true;
                }
            }
            return false;
        }

        private boolean isMoved(Grid start) {
            for (int dy = 0; dy < start.height; dy += 2) {
                for (int dx = dy == 0 ? 2 : 0; dx < start.width; dx += 2) {
                    if (grid.isShifted(start, dx, dy)) {
                        moveColumns = dx;
                        moveRows = dy;
                        return true;
                    }
                }
            }
            return false;
        }

        int unlikeGrids(Grid start, Rule by, int n) {
            grid.copyOf(start);
            unlikes = 0;
            keepIfUnlike();
            for (int i = 0; i < n; i++) {
                grid.go(1, by);
                keepIfUnlike();
            }
            return unlikes;
        }

        private void keepIfUnlike() {
            for (int k = 0; k < unlikes; k++) {
                if (isKeptAs(k)) return;
            }
            for (int y = 0; y < grid.height; y++) put(unlikeRows, unlikes * LONGEST_SIDE + y, grid.rowAt(y));
            unlikes++;
        }

        private boolean isKeptAs(int k) {
            for (int y = 0; y < grid.height; y++) {
                if (at(unlikeRows, k * LONGEST_SIDE + y) != grid.rowAt(y)) return false;
            }
            return true;
        }

        boolean isSeenBy(int word, Whole now) {
            rule.becomeWord(word);
            for (int i = 0; i < now.seen.many; i++) {
                int cell = now.seen.second(i);
                if (!now.grid.has(cell / 100, cell % 100)) return false;
                if (cellThen(now.grid, rule, cell, now.seen.first(i)) != now.seen.third(i)) return false;
            }
            return true;
        }

        Grid behindEvents(Whole now) {
            grid.copyOf(now.grid);
            rule.copyOf(now.rule);
            for (int i = 0; i < now.events.many; i++) happen(now.events.first(i), now.events.second(i));
            return grid;
        }

        private void happen(int what, int n) {
            switch (what) {
                case RULE_EVENT:
                    rule.becomeWord(n);
                    break;
                case STEPS_EVENT:
                    grid.go(n, rule);
                    break;
                default:
                    // The grid may have become smaller since: a cell that is gone stays gone.
                    grid.flip(n / 100, n % 100);
                    break;
            }
        }
    }

    /** The things on a grid and their shapes. A cell's place is 16 y and x. */
    private static final class Things {
        private static final int UNJOINED = -1;
        int many = 0;
        int shapes = 0;
        private int width = 0;
        private int height = 0;
        // Of each cell that is 1 which thing it is of; of the others NEVER.
        private final int[] things = new int[ALL_CELLS];
        // Cells thing by thing, each thing's first cell first.
        private final int[] places = new int[ALL_CELLS];
        private int placed = 0;
        // Where each thing's cells start: the first one's at 0, the next one's where the last one's end.
        private final int[] starts = new int[MOST_THINGS + 1];
        private final int[] shapeOfThing = new int[MOST_THINGS];
        private final int[] models = new int[MOST_THINGS];

        int cellsOf(int k) {
            return at(starts, k + 1) - at(starts, k);
        }

        int firstCellOf(int k) {
            int place = at(places, at(starts, k));
            return 100 * (place & 15) + (place >> 4);
        }

        int shapeOf(int k) {
            return at(shapeOfThing, k);
        }

        int thingOn(int x, int y) {
            return at(things, 16 * y + x);
        }

        /** The first thing that has a shape. */
        int modelOf(int shape) {
            return at(models, shape);
        }

        int thingsLike(int shape) {
            int like = 0;
            for (int k = 0; k < many; k++) {
                if (shapeOf(k) == shape) like++;
            }
            return like;
        }

        void lookAt(Grid grid) {
            width = grid.width;
            height = grid.height;
            many = 0;
            placed = 0;
            for (int y = 0; y < height; y++) {
                for (int x = 0; x < width; x++) put(things, 16 * y + x, grid.cellAt(x, y) == 1 ? UNJOINED : NEVER);
            }
            for (int y = 0; y < height; y++) {
                for (int x = 0; x < width; x++) {
                    if (thingOn(x, y) == UNJOINED) gather(x, y);
                }
            }
            nameShapes();
        }

        private void gather(int x, int y) {
            int start = placed;
            join(x, y);
            // Cells that join on the way are looked round in their turn.
            for (int i = start; i < placed && i < places.length; i++) joinNeighbours(places[i]);
            many++;
            put(starts, many, placed);
        }

        private void joinNeighbours(int place) {
            for (int dy = -1; dy <= 1; dy++) {
                int y = closedRound((place >> 4) + dy, height);
                for (int dx = -1; dx <= 1; dx++) {
                    int x = closedRound((place & 15) + dx, width);
                    if (thingOn(x, y) == UNJOINED) join(x, y);
                }
            }
        }

        private void join(int x, int y) {
            put(things, 16 * y + x, many);
            put(places, placed, 16 * y + x);
            placed++;
        }

        private void nameShapes() {
            shapes = 0;
            for (int k = 0; k < many; k++) {
                int shape = 0;
                while (shape < shapes && !areAlike(modelOf(shape), k)) shape++;
                if (shape == shapes) {
                    put(models, shape, k);
                    shapes++;
                }
                put(shapeOfThing, k, shape);
            }
        }

        private boolean areAlike(int k, int other) {
            if (cellsOf(k) != cellsOf(other)) return false;
            int from = at(places, at(starts, k));
            int to = at(places, at(starts, other));
            int dx = (to & 15) - (from & 15);
            int dy = (to >> 4) - (from >> 4);
            for (int i = at(starts, k); i < at(starts, k + 1); i++) {
                int x = closedRound((at(places, i) & 15) + dx, width);
                int y = closedRound((at(places, i) >> 4) + dy, height);
                if (thingOn(x, y) != other) return false;
            }
            return true;
        }
    }

    /** Bytes, one behind the other. */
    private static final class Text {
        int many = 0;
        private final int[] letters;

        Text(int most) {
            letters = new int[Math.max(most, 0)];
        }

        boolean isFull() {
            return many >= letters.length;
        }

        void add(int letter) {
            if (isFull()) return;
            put(letters, many, letter);
            many++;
        }

        int byteAt(int i) {
            return at(letters, i);
        }

        void empty() {
            many = 0;
        }

        /** The place of the first byte with which no grid's text begins so, or NEVER. */
        int faultPlace() {
            int shortest = 1;
            int longest = LONGEST_SIDE;
            int row = 0;
            int column = 0;
            for (int i = 0; i < many; i++) {
                int letter = byteAt(i);
                if (letter == '/') {
                    if (column < shortest || row == LONGEST_SIDE - 1) return i;
                    // As long as the first row was, all others are.
                    shortest = column;
                    longest = column;
                    row++;
                    column = 0;
                } else {
                    if (letter != '.' && letter != '#' || column == longest) return i;
                    column++;
                }
            }
            return column < shortest ? many : NEVER;
        }

        int firstRowLength() {
            for (int i = 0; i < many; i++) {
                if (byteAt(i) == '/') return i;
            }
            return many;
        }

        int howManyRows() {
            int ends = 1;
            for (int i = 0; i < many; i++) {
                if (byteAt(i) == '/') ends++;
            }
            return ends;
        }
    }

    /** A list: a row of longs, or nothing. */
    private static final class Row {
        int many = -1;
        private final long[] longs = new long[MOST_LONGS];

        boolean isNothing() {
            return many < 0;
        }

        boolean has(int i) {
            return i >= 0 && i < many && i < longs.length;
        }

        long longAt(int i) {
            return has(i) ? longs[i] : 0;
        }

        void write(int i, long v) {
            if (has(i)) longs[i] = v;
        }

        void becomeZeros(int n) {
            for (int i = 0; i < longs.length; i++) longs[i] = 0;
            many = n;
        }
    }
}
