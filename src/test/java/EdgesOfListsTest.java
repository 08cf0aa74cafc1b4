/** Boundary cases of promises 25 to 30: list, set, get, lay, load, judge. In the rich object LIST 0 has 8 longs, 1 nothing, 2 none, 3 20. */
public final class EdgesOfListsTest {
    private static final Edges EDGES = new Edges();
    private static final int NONE = Edges.NONE, BAD = Edges.BAD, NOTHING = Edges.NOTHING, PLACE = Edges.PLACE, SIZE = Edges.SIZE;
    private static final int MIN = Edges.MIN, MAX = Edges.MAX;
    private static final long NO = Long.MIN_VALUE;
    private static final int[] NO_LISTS = {MIN, -1, 4, MAX};

    public static void main(String[] args) {
        listRefused();
        listSizes();
        listAnew();
        setRefused();
        setEnds();
        getRefused();
        getEnds();
        layRefused();
        layEnds();
        layPart();
        layBits();
        loadRefused();
        loadEnds();
        loadBits();
        loadStays();
        judgeRefused();
        judgeShort();
        judgeOtherwise();
        judgeAsks();
        judgeBits();
        EDGES.end();
    }

    private static void listRefused() {
        for (int n : NO_LISTS) {
            EDGES.leaves(25, "LIST " + n + " is NONE", NONE, x -> x.list(n, 5));
            EDGES.leaves(25, "LIST " + n + " with 21: NONE goes ahead of BAD", NONE, x -> x.list(n, 21));
            EDGES.leaves(25, "LIST " + n + " with -1: NONE goes ahead of SIZE", NONE, x -> x.list(n, -1));
        }
        for (int list = 0; list < 4; list++) {
            int each = list;
            for (int n : new int[] {21, 22, MAX}) EDGES.leaves(25, n + " longs for LIST " + list + " are BAD", BAD, x -> x.list(each, n));
            for (int n : new int[] {MIN, -2, -1}) EDGES.leaves(25, n + " longs for LIST " + list + " are SIZE", SIZE, x -> x.list(each, n));
        }
        EDGES.is(25, "BAD: it still holds nothing", NOTHING, x -> { x.list(0, 21); return x.set(0, 0, 1); });
        EDGES.is(25, "SIZE: it still holds nothing", NOTHING, x -> { x.list(0, -1); return x.set(0, 0, 1); });
    }

    private static void listSizes() {
        for (int list = 0; list < 4; list++) {
            int each = list;
            EDGES.is(25, "LIST " + list + " of 0 longs, the least", 1, x -> x.list(each, 0));
            EDGES.is(25, "LIST " + list + " of 20 longs, the most", 1, x -> x.list(each, 20));
            EDGES.is(25, "LIST " + list + " of 20: its last place is 0", 0, x -> { x.list(each, 20); return x.get(each, 19); });
            EDGES.is(25, "LIST " + list + " of 0: no place, but not nothing", PLACE, x -> { x.list(each, 0); return x.set(each, 0, 1); });
        }
        for (int n : new int[] {1, 2, 19, 20}) {
            EDGES.is(25, n + " longs: the first is 0", 0, x -> { x.list(0, n); return x.get(0, 0); });
            EDGES.is(25, n + " longs: the last is 0", 0, x -> { x.list(0, n); return x.get(0, n - 1); });
            EDGES.is(25, n + " longs: none behind the last", NO, x -> { x.list(0, n); return x.get(0, n); });
        }
        EDGES.is(25, "0 longs: none", NO, x -> { x.list(0, 0); return x.get(0, 0); });
    }

    private static void listAnew() {
        EDGES.is(25, "anew: the first is 0 again", 0, x -> { x.list(0, 20); x.set(0, 0, 5); x.list(0, 20); return x.get(0, 0); });
        EDGES.is(25, "anew: the last is 0 again", 0, x -> { x.list(0, 20); x.set(0, 19, 5); x.list(0, 20); return x.get(0, 19); });
        EDGES.is(25, "shorter and longer again: the last is 0", 0, x -> { x.list(0, 20); x.set(0, 19, 5); x.list(0, 0); x.list(0, 20); return x.get(0, 19); });
        EDGES.is(25, "20 longs become none", PLACE, x -> { x.list(0, 20); x.list(0, 0); return x.set(0, 0, 1); });
        EDGES.is(25, "the LIST behind it stays", 5, x -> { x.list(0, 20); x.list(1, 20); x.set(1, 0, 5); x.list(0, 20); return x.get(1, 0); });
        EDGES.is(25, "the LIST ahead of it stays", 5, x -> { x.list(2, 20); x.list(3, 20); x.set(2, 19, 5); x.list(3, 20); return x.get(2, 19); });
        EDGES.is(25, "the LIST behind it still holds nothing", NOTHING, x -> { x.list(0, 20); return x.set(1, 0, 1); });
    }

    private static void setRefused() {
        for (int n : NO_LISTS) {
            EDGES.leaves(26, "LIST " + n + " is NONE", NONE, x -> x.set(n, 0, 1));
            EDGES.leaves(26, "LIST " + n + ", place -1: NONE goes ahead of PLACE", NONE, x -> x.set(n, -1, 1));
        }
        for (int i : new int[] {MIN, -1, 0, 20, MAX}) EDGES.leaves(26, "NOTHING at place " + i, NOTHING, x -> x.set(1, i, 1));
        for (int i : new int[] {MIN, -1, 8, 19, 20, MAX}) EDGES.leaves(26, "PLACE " + i + " of 8", PLACE, x -> x.set(0, i, 1));
        for (int i : new int[] {MIN, -1, 0, 1, MAX}) EDGES.leaves(26, "PLACE " + i + " of none", PLACE, x -> x.set(2, i, 1));
        for (int i : new int[] {MIN, -1, 20, 21, MAX}) EDGES.leaves(26, "PLACE " + i + " of 20", PLACE, x -> x.set(3, i, 1));
    }

    private static void setEnds() {
        for (int list = 0; list < 4; list++) {
            int each = list;
            EDGES.is(26, "LIST " + list + ", the first place of 20", 1, x -> { x.list(each, 20); return x.set(each, 0, 7); });
            EDGES.is(26, "LIST " + list + ", the last place of 20", 1, x -> { x.list(each, 20); return x.set(each, 19, 7); });
            EDGES.is(26, "LIST " + list + ", the only place of 1", 7, x -> { x.list(each, 1); x.set(each, 0, 7); return x.get(each, 0); });
        }
        for (long v : new long[] {Long.MIN_VALUE, Long.MIN_VALUE + 1, -1, 0, 1, Long.MAX_VALUE}) {
            EDGES.is(26, "v " + v + " comes", 1, x -> { x.list(0, 20); return x.set(0, 19, v); });
            EDGES.is(26, "v " + v + " is there", v, x -> { x.list(0, 20); x.set(0, 19, v); return x.get(0, 19); });
        }
        EDGES.is(26, "the last place alone", 0, x -> { x.list(0, 20); x.set(0, 19, 7); return x.get(0, 18); });
        EDGES.is(26, "the first place alone", 0, x -> { x.list(0, 20); x.set(0, 0, 7); return x.get(0, 1); });
        EDGES.is(26, "the LIST alone", 0, x -> { x.list(0, 20); x.list(1, 20); x.set(0, 19, 7); return x.get(1, 19); });
    }

    private static void getRefused() {
        for (int n : NO_LISTS) EDGES.leaves(27, "LIST " + n + " is none: NO", NO, x -> x.get(n, 0));
        for (int i : new int[] {MIN, -1, 0, 19, MAX}) EDGES.leaves(27, "nothing is there, place " + i + ": NO", NO, x -> x.get(1, i));
        for (int i : new int[] {MIN, -1, 8, 19, 20, MAX}) EDGES.leaves(27, "no place " + i + " of 8: NO", NO, x -> x.get(0, i));
        for (int i : new int[] {MIN, -1, 0, MAX}) EDGES.leaves(27, "no place " + i + " of none: NO", NO, x -> x.get(2, i));
        for (int i : new int[] {MIN, -1, 20, MAX}) EDGES.leaves(27, "no place " + i + " of 20: NO", NO, x -> x.get(3, i));
    }

    private static void getEnds() {
        EDGES.leaves(27, "the first place of 8", 0, x -> x.get(0, 0));
        EDGES.leaves(27, "the last place of 8", Long.MAX_VALUE, x -> x.get(0, 7));
        EDGES.leaves(27, "the last place of 20", -1, x -> x.get(3, 19));
        EDGES.is(27, "shorter now: the place is none", NO, x -> { x.list(0, 20); x.set(0, 19, 7); x.list(0, 19); return x.get(0, 19); });
    }

    private static void layRefused() {
        for (int n : NO_LISTS) {
            EDGES.leaves(28, "LIST " + n + " is NONE", NONE, x -> x.lay(n, 0));
            EDGES.leaves(28, "LIST " + n + ", place -1: NONE goes ahead of PLACE", NONE, x -> x.lay(n, -1));
        }
        for (int i : new int[] {MIN, -1, 0, MAX}) EDGES.leaves(28, "NOTHING, place " + i, NOTHING, x -> x.lay(1, i));
        for (int i : new int[] {MIN, MIN + 1, -6, -5, -1}) EDGES.leaves(28, "PLACE " + i + " is below 0: none is LAID", PLACE, x -> x.lay(0, i));
        for (int i : new int[] {8, 9, MAX - 5, MAX}) EDGES.leaves(28, "PLACE " + i + " of 8: none is LAID", PLACE, x -> x.lay(0, i));
        for (int i : new int[] {MIN, -1, 0, MAX}) EDGES.leaves(28, "PLACE " + i + " of none", PLACE, x -> x.lay(2, i));
        for (int i : new int[] {20, MAX}) EDGES.leaves(28, "PLACE " + i + " of 20", PLACE, x -> x.lay(3, i));
    }

    /** Row y of the GRID, 2 by 4, has the bits y modulo 4. */
    private static void four(BlockCells x, int n) {
        Check.read(x, "../#./.#/##");
        x.list(0, n);
        for (int i = 0; i < n; i++) x.set(0, i, 100 + i);
    }

    private static void layEnds() {
        EDGES.is(28, "from place 0, the least", 4, x -> { four(x, 4); return x.lay(0, 0); });
        EDGES.is(28, "to the last place", 4, x -> { four(x, 20); return x.lay(0, 16); });
        EDGES.is(28, "to the last place: the last row", 3, x -> { four(x, 20); x.lay(0, 16); return x.get(0, 19); });
        EDGES.is(28, "to the last place: the first row", 0, x -> { four(x, 20); x.lay(0, 16); return x.get(0, 16); });
        EDGES.is(28, "the place ahead stays", 115, x -> { four(x, 20); x.lay(0, 16); return x.get(0, 15); });
        EDGES.is(28, "the place behind stays", 104, x -> { four(x, 20); x.lay(0, 0); return x.get(0, 4); });
        EDGES.is(28, "the least GRID: H", 2, x -> { x.size(2, 2); x.list(3, 2); return x.lay(3, 0); });
        EDGES.is(28, "the greatest GRID: H", 16, x -> { x.size(16, 16); x.list(3, 16); return x.lay(3, 0); });
        EDGES.is(28, "the greatest GRID from place 4 of 20: H", 16, x -> { x.size(16, 16); x.list(3, 20); return x.lay(3, 4); });
        EDGES.is(28, "the LIST is no longer than before", NO, x -> { four(x, 4); x.lay(0, 3); return x.get(0, 4); });
        EDGES.leaves(28, "once more: the same", 6, x -> { Edges.rich(x); x.lay(3, 14); }, x -> x.lay(3, 14));
        EDGES.is(28, "CHANGES stay", 12, x -> { x.list(0, 20); Edges.changes(x, 12); x.lay(0, 0); return x.told(5); });
    }

    private static void layPart() {
        EDGES.is(28, "one row has no place: PLACE", PLACE, x -> { four(x, 20); return x.lay(0, 17); });
        EDGES.is(28, "one row has no place: the last that has", 2, x -> { four(x, 20); x.lay(0, 17); return x.get(0, 19); });
        EDGES.is(28, "one row has no place: the first is there", 0, x -> { four(x, 20); x.lay(0, 17); return x.get(0, 17); });
        EDGES.is(28, "one row alone has a place: PLACE", PLACE, x -> { four(x, 20); return x.lay(0, 19); });
        EDGES.is(28, "one row alone has a place: it is there", 0, x -> { four(x, 20); x.lay(0, 19); return x.get(0, 19); });
        EDGES.is(28, "one row alone has a place: the place ahead stays", 118, x -> { four(x, 20); x.lay(0, 19); return x.get(0, 18); });
        EDGES.is(28, "a LIST of one", PLACE, x -> { four(x, 1); return x.lay(0, 0); });
        EDGES.is(28, "a LIST of one: it is there", 0, x -> { four(x, 1); x.lay(0, 0); return x.get(0, 0); });
        EDGES.is(28, "the greatest GRID from place 5 of 20", PLACE, x -> { x.size(16, 16); x.list(3, 20); return x.lay(3, 5); });
        EDGES.is(28, "the greatest GRID from place 5 of 20: row 14 is there", 65535, x -> { Edges.full(x, 16, 16); x.list(3, 20); x.lay(3, 5); return x.get(3, 19); });
        EDGES.is(28, "place -1: row 1 isn't there either", 100, x -> { four(x, 20); x.lay(0, -1); return x.get(0, 0); });
    }

    private static void layBits() {
        EDGES.is(28, "an empty row", 0, x -> { x.size(16, 16); x.list(0, 16); x.set(0, 15, 9); x.lay(0, 0); return x.get(0, 15); });
        EDGES.is(28, "a full row", 65535, x -> { Edges.full(x, 16, 16); x.list(0, 16); x.lay(0, 0); return x.get(0, 15); });
        EDGES.is(28, "a full row of two", 3, x -> { Edges.full(x, 2, 2); x.list(0, 2); x.lay(0, 0); return x.get(0, 1); });
        EDGES.is(28, "CELL 0 is bit 0", 1, x -> { x.size(16, 2); x.toggle(0, 1); x.list(0, 2); x.lay(0, 0); return x.get(0, 1); });
        EDGES.is(28, "CELL 15 is bit 15", 32768, x -> { x.size(16, 2); x.toggle(15, 1); x.list(0, 2); x.lay(0, 0); return x.get(0, 1); });
    }

    private static void loadRefused() {
        for (int n : NO_LISTS) {
            EDGES.leaves(29, "LIST " + n + " is NONE", NONE, x -> x.load(n, 0));
            EDGES.leaves(29, "LIST " + n + ", place -1: NONE goes ahead of PLACE", NONE, x -> x.load(n, -1));
        }
        for (int i : new int[] {MIN, -1, 0, MAX}) EDGES.leaves(29, "NOTHING, place " + i, NOTHING, x -> x.load(1, i));
        for (int i : new int[] {MIN, MIN + 1, -6, -1}) EDGES.leaves(29, "PLACE " + i + " is below 0", PLACE, x -> x.load(0, i));
        for (int i : new int[] {3, 4, 7, 8, MAX - 5, MAX}) EDGES.leaves(29, "PLACE " + i + " of 8: not all six are there", PLACE, x -> x.load(0, i));
        for (int i : new int[] {15, 19, 20, MAX}) EDGES.leaves(29, "PLACE " + i + " of 20: not all six are there", PLACE, x -> x.load(3, i));
        for (int i : new int[] {MIN, -1, 0, MAX}) EDGES.leaves(29, "PLACE " + i + " of none", PLACE, x -> x.load(2, i));
        EDGES.leaves(29, "a LIST of five: one row isn't there", PLACE, x -> { Edges.rich(x); x.list(0, 5); }, x -> x.load(0, 0));
        EDGES.leaves(29, "the greatest GRID from place 5 of 20", PLACE, x -> { Edges.full(x, 16, 16); x.list(0, 20); }, x -> x.load(0, 5));
    }

    private static void loadEnds() {
        EDGES.is(29, "from place 0 of 4", 4 + 2, x -> { ones(x, 4, 4); return x.load(0, 0); });
        EDGES.is(29, "from place 16 of 20, the greatest", 4 + 2, x -> { ones(x, 4, 20); return x.load(0, 16); });
        EDGES.grid(29, "from place 16 of 20: row by row", "#.../##../#.../##..", x -> { ones(x, 4, 20); x.load(0, 16); });
        EDGES.is(29, "the least GRID", 3, x -> { ones(x, 2, 2); return x.load(0, 0); });
        EDGES.is(29, "the greatest GRID from place 4 of 20", 24, x -> { ones(x, 16, 20); return x.load(0, 4); });
        EDGES.is(29, "2 by 16: the last row, too", 2, x -> { x.size(2, 16); x.list(0, 16); x.set(0, 15, -1); return x.load(0, 0); });
        EDGES.is(29, "2 by 16: the last row of a full GRID, too", 30, x -> {
            Edges.full(x, 2, 16);
            x.list(0, 16);
            for (int i = 0; i < 15; i++) x.set(0, i, 3);
            return x.load(0, 0);
        });
        EDGES.is(29, "16 by 2: two places are enough", 16, x -> { x.size(16, 2); x.list(0, 2); x.set(0, 1, -1); return x.load(0, 0); });
        EDGES.is(29, "all 0: COUNT", 0, x -> { Edges.full(x, 16, 16); x.list(0, 16); return x.load(0, 0); });
        EDGES.is(29, "all -1: COUNT", 256, x -> { x.size(16, 16); x.list(0, 16); for (int i = 0; i < 16; i++) x.set(0, i, -1); return x.load(0, 0); });
        EDGES.is(29, "W and H stay", 416, x -> { x.size(4, 16); x.list(0, 20); x.load(0, 0); return 100 * x.told(0) + x.told(1); });
    }

    /** A GRID of n by n and a LIST of so many: by turns 1 and 3. */
    private static void ones(BlockCells x, int n, int many) {
        x.size(n, n);
        x.list(0, many);
        for (int i = 0; i < many; i++) x.set(0, i, i % 2 == 0 ? 1 : 3);
    }

    private static void bit(String edge, int w, int bit, int want) {
        EDGES.is(29, edge, want, x -> { x.size(w, 2); x.list(0, 2); x.set(0, 1, 1L << bit); return x.load(0, 0); });
    }

    private static void loadBits() {
        bit("bit 0 counts", 4, 0, 1);
        bit("bit W - 1, the greatest, counts", 4, 3, 1);
        bit("bit W doesn't count", 4, 4, 0);
        bit("bit 31 doesn't count", 4, 31, 0);
        bit("bit 32 doesn't count", 4, 32, 0);
        bit("bit 63 doesn't count", 4, 63, 0);
        bit("bit 15 of 16 counts", 16, 15, 1);
        bit("bit 16 of 16 doesn't count", 16, 16, 0);
        bit("bit 1 of 2 counts", 2, 1, 1);
        bit("bit 2 of 2 doesn't count", 2, 2, 0);
        EDGES.is(29, "bit 0 is CELL 0", 1, x -> { x.size(16, 2); x.list(0, 2); x.set(0, 1, 1); x.load(0, 0); return x.cell(0, 1); });
        EDGES.is(29, "bit 15 is CELL 15", 1, x -> { x.size(16, 2); x.list(0, 2); x.set(0, 1, 32768); x.load(0, 0); return x.cell(15, 1); });
        EDGES.is(29, "what doesn't count is no CELL of a wider GRID", 0, x -> {
            x.size(2, 2);
            x.list(0, 2);
            x.set(0, 0, -4);
            x.load(0, 0);
            x.size(16, 16);
            return x.told(4);
        });
        EDGES.is(29, "what doesn't count is in no BLOCK", 0, x -> { x.size(2, 2); x.list(0, 2); x.set(0, 0, -4); x.load(0, 0); return x.block(0, 0); });
    }

    private static void loadStays() {
        for (int time : new int[] {-9999, -1, 9999}) {
            EDGES.is(29, "TIME " + time + " stays", 10000 + time, x -> { Edges.toTime(x, time); x.list(0, 8); x.load(0, 0); return x.told(2); });
        }
        EDGES.is(29, "the RULE stays", 15, x -> { x.change(0, 15); x.list(0, 8); x.load(0, 0); return x.becomes(0, false); });
        EDGES.is(29, "the LIST stays", -1, x -> { x.list(0, 8); x.set(0, 7, -1); x.load(0, 0); return x.get(0, 7); });
        EDGES.is(29, "12 CHANGES: none is left", Edges.STATE, x -> { Edges.changes(x, 12); x.list(0, 8); x.load(0, 0); return x.undo(); });
        EDGES.is(29, "THE IMAGE stays", 1, x -> { x.toggle(0, 0); x.image(); x.list(0, 8); x.load(0, 0); return x.back(); });
    }

    private static void judgeRefused() {
        for (int n : NO_LISTS) {
            EDGES.leaves(30, "LIST " + n + " is NONE", NONE, x -> x.judge(n, 0));
            EDGES.leaves(30, "LIST " + n + ", place -1 is NONE", NONE, x -> x.judge(n, -1));
        }
        for (int i : new int[] {MIN, -1, 0, 1, MAX}) EDGES.leaves(30, "it holds nothing, place " + i, 100, x -> x.judge(1, i));
        for (int i : new int[] {MIN, -1, 0, 1, MAX}) EDGES.leaves(30, "a row of none, place " + i, 100, x -> x.judge(2, i));
        for (int i : new int[] {MIN, MIN + 1, -6, -1}) EDGES.leaves(30, "place " + i + " is below 0", 100, x -> x.judge(0, i));
        for (int i : new int[] {8, 9, MAX - 5, MAX}) EDGES.leaves(30, "place " + i + " of 8, it ends ahead of that", 100, x -> x.judge(0, i));
        EDGES.leaves(30, "place 20 of 20, it ends ahead of that", 100, x -> x.judge(3, 20));
    }

    /** The rows of the GRID, 16 by h, by turns 1 and 32768, are LAID into a LIST of so many from place i on. */
    private static void laid(BlockCells x, int h, int many, int i) {
        x.size(16, h);
        for (int y = 0; y < h; y++) x.toggle(y % 2 == 0 ? 0 : 15, y);
        x.list(0, many);
        x.lay(0, i);
    }

    private static void judgeShort() {
        EDGES.is(30, "all H rows are there", -5, x -> { laid(x, 16, 16, 0); return x.judge(0, 0); });
        EDGES.is(30, "all H rows are there, to the last place", -5, x -> { laid(x, 16, 20, 4); return x.judge(0, 4); });
        EDGES.is(30, "one row is missing", 115, x -> { laid(x, 16, 20, 5); return x.judge(0, 5); });
        EDGES.is(30, "one row alone is there", 101, x -> { laid(x, 16, 20, 19); return x.judge(0, 19); });
        EDGES.is(30, "the least GRID, all rows", -5, x -> { x.size(2, 2); x.list(0, 2); return x.judge(0, 0); });
        EDGES.is(30, "the least GRID, one row is missing", 101, x -> { x.size(2, 2); x.list(0, 2); return x.judge(0, 1); });
        EDGES.is(30, "the row behind all H isn't looked at", -5, x -> { laid(x, 4, 5, 0); x.set(0, 4, -1); return x.judge(0, 0); });
        EDGES.is(30, "what is ahead of the place isn't looked at", -5, x -> { laid(x, 4, 5, 1); x.set(0, 0, -1); return x.judge(0, 1); });
    }

    private static void judgeOtherwise() {
        EDGES.is(30, "the first row is otherwise", 0, x -> { laid(x, 16, 16, 0); x.set(0, 0, 3); return x.judge(0, 0); });
        EDGES.is(30, "the last row is otherwise", 15, x -> { laid(x, 16, 16, 0); x.set(0, 15, 0); return x.judge(0, 0); });
        EDGES.is(30, "the first of two that are", 3, x -> { laid(x, 16, 16, 0); x.set(0, 3, 0); x.set(0, 15, 0); return x.judge(0, 0); });
        EDGES.is(30, "otherwise ahead of the end", 2, x -> { laid(x, 16, 3, 0); x.set(0, 2, 0); return x.judge(0, 0); });
        EDGES.is(30, "an empty GRID, a full row", 0, x -> { x.size(16, 16); x.list(0, 16); x.set(0, 0, 65535); return x.judge(0, 0); });
        EDGES.is(30, "a full GRID, an empty row", 0, x -> { Edges.full(x, 16, 16); x.list(0, 16); return x.judge(0, 0); });
    }

    private static void judgeAsks() {
        EDGES.leaves(30, "what is asked changes nothing: none is otherwise", -5, x -> { Edges.rich(x); x.lay(3, 14); }, x -> x.judge(3, 14));
        EDGES.leaves(30, "what is asked changes nothing: the last is otherwise", 5, x -> { Edges.rich(x); x.lay(0, 0); x.set(0, 5, -1); }, x -> x.judge(0, 0));
        EDGES.leaves(30, "what is asked changes nothing: it ends ahead of that", 105, x -> { Edges.rich(x); x.lay(3, 15); }, x -> x.judge(3, 15));
    }

    private static void judgeBits() {
        for (int bit : new int[] {16, 31, 32, 62, 63}) {
            EDGES.is(30, "bit " + bit + ", beyond W, is looked at", 15, x -> { laid(x, 16, 16, 0); x.set(0, 15, 32768 | 1L << bit); return x.judge(0, 0); });
        }
        EDGES.is(30, "bit W of 2 is looked at", 1, x -> { x.size(2, 2); x.list(0, 2); x.set(0, 1, 4); return x.judge(0, 0); });
        EDGES.is(30, "bit 63 alone is looked at", 1, x -> { x.size(2, 2); x.list(0, 2); x.set(0, 1, Long.MIN_VALUE); return x.judge(0, 0); });
        EDGES.is(30, "what load() takes judge() need not", 0, x -> { x.size(2, 2); x.list(0, 2); x.set(0, 0, 4); x.load(0, 0); return x.judge(0, 0); });
    }
}
