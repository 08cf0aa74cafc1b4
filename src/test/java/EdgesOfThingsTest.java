/** Boundary cases of promises 18 to 20: thing, thingAt, shape, where the GRID is closed round. */
public final class EdgesOfThingsTest {
    private static final Edges EDGES = new Edges();
    private static final int NONE = Edges.NONE, NEVER = Edges.NEVER, MIN = Edges.MIN, MAX = Edges.MAX;
    private static final int W = 8, H = 6;
    private static final int[][] RIM = {{0, 0}, {7, 0}, {0, 5}, {7, 5}, {3, 0}, {3, 5}, {0, 2}, {7, 2}};

    public static void main(String[] args) {
        joinedRound();
        apartRound();
        leastGrids();
        longThings();
        thingNumbers();
        thingMost();
        thingAtRefused();
        thingAtRim();
        lessThanBefore();
        shapeNumbers();
        shapeMost();
        shapesRound();
        shapesOblong();
        shapesWhole();
        EDGES.end();
    }

    private static int closed(int i, int length) {
        return (i + length) % length;
    }

    private static void two(BlockCells x, int[] at, int dx, int dy) {
        x.size(W, H);
        x.toggle(at[0], at[1]);
        x.toggle(closed(at[0] + dx, W), closed(at[1] + dy, H));
    }

    /** The one that comes first row by row: 100 x and y. */
    private static int firstOf(int[] at, int dx, int dy) {
        int x = closed(at[0] + dx, W);
        int y = closed(at[1] + dy, H);
        boolean isOther = y < at[1] || y == at[1] && x < at[0];
        return isOther ? 100 * x + y : 100 * at[0] + at[1];
    }

    private static void joinedRound() {
        for (int[] at : RIM) {
            for (int i = 0; i < 9; i++) {
                int dx = i % 3 - 1;
                int dy = i / 3 - 1;
                if (dx == 0 && dy == 0) continue;
                String name = at[0] + ", " + at[1] + " and its neighbour " + dx + ", " + dy;
                EDGES.is(6, name + ": one THING", 1, x -> { two(x, at, dx, dy); return x.told(6); });
                EDGES.is(18, name + ": the first CELL", firstOf(at, dx, dy), x -> { two(x, at, dx, dy); return x.thing(0, 1); });
                EDGES.is(18, name + ": how many CELLS", 2, x -> { two(x, at, dx, dy); return x.thing(0, 0); });
                EDGES.is(19, name + ": both are of it", 0, x -> {
                    two(x, at, dx, dy);
                    return x.thingAt(at[0], at[1]) + x.thingAt(closed(at[0] + dx, W), closed(at[1] + dy, H));
                });
            }
        }
    }

    private static void apartRound() {
        for (int[] at : RIM) {
            for (int along = -1; along <= 1; along++) {
                int a = along;
                for (int across = -2; across <= 2; across += 4) {
                    int c = across;
                    String name = at[0] + ", " + at[1] + " and ";
                    EDGES.is(6, name + c + ", " + a + " on: two THINGS", 2, x -> { two(x, at, c, a); return x.told(6); });
                    EDGES.is(6, name + a + ", " + c + " on, upright: two THINGS", 2, x -> { two(x, at, a, c); return x.told(6); });
                }
            }
        }
    }

    private static void leastGrids() {
        EDGES.is(18, "2 by 2, one CELL", 1, x -> { x.size(2, 2); x.toggle(1, 1); return x.thing(0, 0); });
        EDGES.is(18, "2 by 2, two across", 2, x -> { x.size(2, 2); x.toggle(1, 0); x.toggle(0, 1); return x.thing(0, 0); });
        EDGES.is(18, "2 by 2, two across: the first CELL", 100, x -> { x.size(2, 2); x.toggle(1, 0); x.toggle(0, 1); return x.thing(0, 1); });
        EDGES.is(18, "2 by 2, full", 4, x -> { Edges.full(x, 2, 2); return x.thing(0, 0); });
        EDGES.is(6, "2 by 16, first and last row", 1, x -> { x.size(2, 16); x.toggle(0, 0); x.toggle(1, 15); return x.told(6); });
        EDGES.is(6, "2 by 16, first and last row but one", 2, x -> { x.size(2, 16); x.toggle(0, 0); x.toggle(1, 14); return x.told(6); });
        EDGES.is(6, "16 by 2, first and last column", 1, x -> { x.size(16, 2); x.toggle(0, 0); x.toggle(15, 1); return x.told(6); });
        EDGES.is(6, "16 by 2, first and last column but one", 2, x -> { x.size(16, 2); x.toggle(0, 0); x.toggle(14, 1); return x.told(6); });
        EDGES.is(6, "16 by 16, first and last corner", 1, x -> { x.size(16, 16); x.toggle(0, 0); x.toggle(15, 15); return x.told(6); });
        EDGES.is(6, "4 wide, two columns on either way", 2, x -> { x.size(4, 4); x.toggle(0, 0); x.toggle(2, 0); return x.told(6); });
    }

    private static void longThings() {
        EDGES.is(18, "a whole row is one THING", 16, x -> { x.size(16, 2); row(x, 16); return x.thing(0, 0); });
        EDGES.is(18, "a row but its first CELL", 15, x -> { x.size(16, 2); row(x, 16); x.toggle(0, 0); return x.thing(0, 0); });
        EDGES.is(18, "a whole column is one THING", 6, x -> { Check.read(x, "...#/...#/...#/...#/...#/...#"); return x.thing(0, 0); });
        EDGES.is(18, "four corners: the first CELL", 0, x -> { Check.read(x, "#..#/..../..../#..#"); return x.thing(0, 1); });
        EDGES.is(18, "the last row joined with the first: the first CELL", 200, x -> { Check.read(x, "..#./..../..../.#.."); return x.thing(0, 1); });
        EDGES.is(18, "two of the first row joined by the last row", 5, x -> { Check.read(x, "#..#..../......../......../......../......../.##....#"); return x.thing(0, 0); });
        EDGES.is(18, "all CELLS, the greatest GRID", 256, x -> { Edges.full(x, 16, 16); return x.thing(0, 0); });
        EDGES.is(18, "all CELLS: the first", 0, x -> { Edges.full(x, 16, 16); return x.thing(0, 1); });
        EDGES.is(18, "all CELLS but the first: the first", 100, x -> { Edges.full(x, 16, 16); x.toggle(0, 0); return x.thing(0, 1); });
        EDGES.is(18, "the last CELL alone", 1515, x -> { x.size(16, 16); x.toggle(15, 15); return x.thing(0, 1); });
    }

    private static void row(BlockCells x, int n) {
        for (int i = 0; i < n; i++) x.toggle(i, 0);
    }

    private static void thingNumbers() {
        String text = "#....#../......../...#..../......../......../........";
        Edges.Ahead three = x -> Check.read(x, text);
        for (int what = 0; what < 3; what++) {
            int each = what;
            for (int k : new int[] {MIN, -1, 3, MAX}) EDGES.leaves(18, "THING " + k + " of three, what " + what, NONE, three, x -> x.thing(k, each));
            EDGES.leaves(18, "THING 0 of none, what " + what, NONE, x -> { }, x -> x.thing(0, each));
            EDGES.leaves(18, "THING 1 of a full GRID, what " + what, NONE, x -> Edges.full(x, 4, 4), x -> x.thing(1, each));
        }
        for (int what : new int[] {MIN, -1, 3, MAX}) {
            EDGES.leaves(18, "what " + what + " of THING 0", NONE, three, x -> x.thing(0, what));
            EDGES.leaves(18, "what " + what + " of the last THING", NONE, three, x -> x.thing(2, what));
            EDGES.leaves(18, "what " + what + " of no THING", NONE, three, x -> x.thing(3, what));
        }
        EDGES.leaves(18, "THING 0, the least, what 0", 1, three, x -> x.thing(0, 0));
        EDGES.leaves(18, "THING 0, what 1", 0, three, x -> x.thing(0, 1));
        EDGES.leaves(18, "THING 2, the greatest, what 1", 302, three, x -> x.thing(2, 1));
        EDGES.leaves(18, "THING 2, what 2, the greatest", 0, three, x -> x.thing(2, 2));
    }

    private static void thingMost() {
        EDGES.is(18, "64 THINGS, the most: the last one's CELLS", 1, x -> { Edges.apart(x); return x.thing(63, 0); });
        EDGES.is(18, "64 THINGS: the last one's first CELL", 1414, x -> { Edges.apart(x); return x.thing(63, 1); });
        EDGES.is(18, "64 THINGS: the last one's SHAPE", 0, x -> { Edges.apart(x); return x.thing(63, 2); });
        EDGES.is(18, "64 THINGS: one more", NONE, x -> { Edges.apart(x); return x.thing(64, 0); });
        EDGES.is(19, "64 THINGS: the last one's CELL", 63, x -> { Edges.apart(x); return x.thingAt(14, 14); });
        EDGES.is(20, "64 THINGS: how many have the SHAPE", 64, x -> { Edges.apart(x); return x.shape(0, 0); });
        EDGES.is(20, "64 THINGS: no second SHAPE", NONE, x -> { Edges.apart(x); return x.shape(1, 0); });
    }

    private static void thingAtRefused() {
        for (int n : new int[] {MIN, -1, 4, 5, 16, MAX}) EDGES.leaves(19, "x " + n + " is NONE", NONE, x -> x.thingAt(n, 0));
        for (int n : new int[] {MIN, -1, 6, 16, MAX}) EDGES.leaves(19, "y " + n + " is NONE", NONE, x -> x.thingAt(0, n));
        EDGES.leaves(19, "x and y just above the greatest", NONE, x -> x.thingAt(4, 6));
        EDGES.leaves(19, "x 16 of a full GRID", NONE, x -> Edges.full(x, 16, 16), x -> x.thingAt(16, 0));
        EDGES.leaves(19, "y 16 of a full GRID", NONE, x -> Edges.full(x, 16, 16), x -> x.thingAt(0, 16));
    }

    private static void thingAtRim() {
        for (int[] at : RIM) {
            String name = at[0] + ", " + at[1];
            EDGES.is(19, name + " alone", 0, x -> { x.size(W, H); x.toggle(at[0], at[1]); return x.thingAt(at[0], at[1]); });
            EDGES.is(19, name + " is 0", NEVER, x -> { x.size(W, H); return x.thingAt(at[0], at[1]); });
            EDGES.is(19, name + " is 0, all others 1", NEVER, x -> { Edges.full(x, W, H); x.toggle(at[0], at[1]); return x.thingAt(at[0], at[1]); });
            EDGES.is(19, name + " of a full GRID", 0, x -> { Edges.full(x, W, H); return x.thingAt(at[0], at[1]); });
        }
        EDGES.is(19, "the last corner, apart from the first", 1, x -> { Check.read(x, "..#...../......../......../......../......../.......#"); return x.thingAt(7, 5); });
        EDGES.is(19, "the last corner, joined with the first", 0, x -> { Check.read(x, "#..#..../......../......../......../......../.......#"); return x.thingAt(7, 5); });
        EDGES.leaves(19, "of an empty GRID", NEVER, x -> x.size(16, 16), x -> x.thingAt(15, 15));
        EDGES.leaves(19, "of a full GRID", 0, x -> Edges.full(x, 16, 16), x -> x.thingAt(15, 15));
    }

    /** What was found on a greater GRID is no more. */
    private static void lessThanBefore() {
        EDGES.is(6, "64 THINGS, then an empty GRID", 0, x -> { Edges.apart(x); x.told(6); x.size(2, 2); return x.told(6); });
        EDGES.is(6, "64 THINGS, then an empty GRID: SHAPES", 0, x -> { Edges.apart(x); x.told(7); x.size(2, 2); return x.told(7); });
        EDGES.is(18, "64 THINGS, then one of four CELLS", 4, x -> { Edges.apart(x); x.told(6); Edges.full(x, 2, 2); return x.thing(0, 0); });
        EDGES.is(18, "64 THINGS, then one: no second", NONE, x -> { Edges.apart(x); x.told(6); Edges.full(x, 2, 2); return x.thing(1, 0); });
        EDGES.is(19, "a full GRID, then an empty one", NEVER, x -> { Edges.full(x, 16, 16); x.told(6); x.size(16, 16); return x.thingAt(15, 15); });
        EDGES.is(19, "a full GRID, then a CELL is 0", NEVER, x -> { Edges.full(x, 16, 16); x.told(6); x.toggle(15, 15); return x.thingAt(15, 15); });
        EDGES.is(20, "64 THINGS, then one", 1, x -> { Edges.apart(x); x.shape(0, 0); Edges.full(x, 2, 2); return x.shape(0, 0); });
        EDGES.is(6, "behind what EVENTS would leave", 1, x -> { x.toggle(0, 0); x.event(2, 404); x.after(1); return x.told(6); });
    }

    private static void shapeNumbers() {
        Edges.Ahead two = x -> Check.read(x, "#....#../......../..##..../......../......../........");
        for (int what = 0; what < 3; what++) {
            int each = what;
            for (int k : new int[] {MIN, -1, 2, MAX}) EDGES.leaves(20, "SHAPE " + k + " of two, what " + what, NONE, two, x -> x.shape(k, each));
            EDGES.leaves(20, "SHAPE 0 of none, what " + what, NONE, x -> { }, x -> x.shape(0, each));
        }
        for (int what : new int[] {MIN, -1, 3, MAX}) {
            EDGES.leaves(20, "what " + what + " of SHAPE 0", NONE, two, x -> x.shape(0, what));
            EDGES.leaves(20, "what " + what + " of the last SHAPE", NONE, two, x -> x.shape(1, what));
            EDGES.leaves(20, "what " + what + " of no SHAPE", NONE, two, x -> x.shape(2, what));
        }
        EDGES.leaves(20, "SHAPE 0, the least, what 0, the least", 2, two, x -> x.shape(0, 0));
        EDGES.leaves(20, "SHAPE 0, what 1", 1, two, x -> x.shape(0, 1));
        EDGES.leaves(20, "SHAPE 0, what 2", 0, two, x -> x.shape(0, 2));
        EDGES.leaves(20, "SHAPE 1, the greatest, what 0", 1, two, x -> x.shape(1, 0));
        EDGES.leaves(20, "SHAPE 1, what 1", 2, two, x -> x.shape(1, 1));
        EDGES.leaves(20, "SHAPE 1, what 2, the greatest", 202, two, x -> x.shape(1, 2));
    }

    private static void shapeMost() {
        EDGES.is(20, "a full GRID: how many CELLS", 256, x -> { Edges.full(x, 16, 16); return x.shape(0, 1); });
        EDGES.is(20, "a full GRID: how many THINGS", 1, x -> { Edges.full(x, 16, 16); return x.shape(0, 0); });
        EDGES.is(20, "a full GRID: the first CELL", 0, x -> { Edges.full(x, 16, 16); return x.shape(0, 2); });
        EDGES.is(20, "the last CELL alone: the first CELL", 1515, x -> { x.size(16, 16); x.toggle(15, 15); return x.shape(0, 2); });
        String text = "#..##.../......../......../###....#/......../........";
        EDGES.is(20, "in the order of the first THINGS: the last", 4, x -> { Check.read(x, text); return x.shape(2, 1); });
        EDGES.is(20, "in the order of the first THINGS: its first CELL", 3, x -> { Check.read(x, text); return x.shape(2, 2); });
        EDGES.is(20, "behind the last of three", NONE, x -> { Check.read(x, text); return x.shape(3, 0); });
    }

    private static void shapes(String edge, int want, String text) {
        EDGES.is(20, edge, want, x -> { Check.read(x, text); return x.told(7); });
    }

    private static void shapesRound() {
        shapes("two beside, one of them round the edge: another first CELL", 2, "#......#/......../..##..../......../......../........");
        shapes("two beside, both round the edge", 1, "#......#/......../#......#/......../......../........");
        shapes("two upright, one of them round the edge: another first CELL", 2, "#......./......../..#...../..#...../......../#.......");
        shapes("two upright, both round the edge", 1, "#...#.../......../......../......../......../#...#...");
        shapes("slope to the left, round the edge: modulo W", 1, "#......./.......#/......../....#.../...#..../........");
        shapes("slope to the right, round the edge: modulo W", 1, ".......#/#......./......../..#...../...#..../........");
        shapes("slopes to either side", 2, "#......./.#....../......../....#.../...#..../........");
        shapes("slope round the edge and slope to the other side", 2, "#......./.......#/......../....#.../.....#../........");
        shapes("slope through the last row", 2, "#......./......../...#..../....#.../......../.......#");
        shapes("two rows, each a ring", 1, "########/......../......../########/......../........");
        shapes("two columns, each a ring", 1, "#...#.../#...#.../#...#.../#...#.../#...#.../#...#...");
        shapes("a row that is a ring and a row short of one", 2, "########/......../......../#######./......../........");
    }

    /** As many rows more than columns as can be, and the other way. */
    private static void shapesOblong() {
        EDGES.is(20, "2 by 16: two alike, far down", 1, x -> { x.size(2, 16); x.toggle(0, 0); x.toggle(1, 13); return x.told(7); });
        EDGES.is(20, "2 by 16: two alike, upright, far down", 1, x -> {
            x.size(2, 16);
            for (int y : new int[] {1, 2, 13, 14}) x.toggle(0, y);
            return x.told(7);
        });
        EDGES.is(20, "2 by 16: a row and a column", 2, x -> {
            x.size(2, 16);
            x.toggle(0, 2);
            x.toggle(1, 2);
            x.toggle(0, 13);
            x.toggle(0, 14);
            return x.told(7);
        });
        EDGES.is(20, "16 by 2: two alike, far on", 1, x -> { x.size(16, 2); x.toggle(0, 0); x.toggle(13, 1); return x.told(7); });
        EDGES.is(20, "16 by 2: two alike, side by side, far on", 1, x -> {
            x.size(16, 2);
            for (int i : new int[] {1, 2, 13, 14}) x.toggle(i, 0);
            return x.told(7);
        });
        EDGES.is(20, "16 by 2, behind 16 by 16 full: what was below is no more", 2, x -> {
            Edges.full(x, 16, 16);
            x.told(7);
            x.size(16, 2);
            x.toggle(0, 0);
            x.toggle(0, 1);
            x.toggle(8, 1);
            x.toggle(9, 1);
            return x.told(7);
        });
    }

    private static void shapesWhole() {
        shapes("in any order: the first CELL right above, round the edge", 1, ".......#/#......#/......../..#...../..##..../........");
        shapes("as many CELLS, one elsewhere", 2, "##....../#......./......../.##...../..#...../........");
        shapes("one CELL more", 2, "##....../......../......../.###..../......../........");
        shapes("one CELL less", 2, "###...../......../......../.##...../......../........");
        shapes("two alike, none in the first row", 1, "......../.##...../.#....../......../....##../....#...");
        shapes("two alike but for one CELL, none in the first row", 2, "......../.##...../.#....../......../....##../.....#..");
        shapes("two alike, both round the right edge, none in the first row", 1, "......../......../#......#/......../#......#/........");
        shapes("a square round the last row and a square", 2, ".....##./......../.##...../.##...../......../.....##.");
        shapes("a square round the right edge and a square", 2, "......../.##...../.##...../......../#......#/#......#");
        shapes("one alone at a corner and one within", 1, "#......./......../......../...#..../......../........");
    }
}
