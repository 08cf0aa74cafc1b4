/** Boundary cases of promises 12 to 17: then, sum, kept, again, moved, unlike. */
public final class EdgesOfThoughtTest {
    private static final Edges EDGES = new Edges();
    private static final int NONE = Edges.NONE, BAD = Edges.BAD, NEVER = Edges.NEVER, MIN = Edges.MIN, MAX = Edges.MAX;
    private static final int[] FAR = {MIN, -10, 10, MAX};

    public static void main(String[] args) {
        thenRefused();
        thenEnds();
        thenTimes();
        thenEmptyAndFull();
        sumRefused();
        sumEnds();
        sumCorners();
        keptRefused();
        keptEnds();
        keptEmptyAndFull();
        keptPhases();
        againEnds();
        againTimes();
        movedEnds();
        movedShifts();
        movedLeast();
        movedEven();
        movedTimes();
        askedTwice();
        unlikeEnds();
        unlikeGreatest();
        unlikeTimes();
        EDGES.end();
    }

    /** By ball a CELL from 0, 0 at an even TIME is n columns and rows on behind n STEPS, modulo 14. */
    private static void ballAt(BlockCells x, int time) {
        x.size(14, 14);
        Edges.toTime(x, time);
        x.toggle(0, 0);
    }

    private static void thenRefused() {
        for (int n : new int[] {MIN, -1, 4, 5, 16, MAX}) EDGES.leaves(12, "x " + n + " is NONE", NONE, x -> x.then(n, 0, 1));
        for (int n : new int[] {MIN, -1, 6, 16, MAX}) EDGES.leaves(12, "y " + n + " is NONE", NONE, x -> x.then(0, n, 1));
        for (int n : new int[] {MIN, -61, 61, MAX}) {
            EDGES.leaves(12, n + " STEPS are BAD", BAD, x -> x.then(0, 0, n));
            EDGES.leaves(12, "x below, " + n + " STEPS: NONE goes ahead of BAD", NONE, x -> x.then(-1, 0, n));
            EDGES.leaves(12, "y above, " + n + " STEPS: NONE goes ahead of BAD", NONE, x -> x.then(0, 6, n));
        }
        EDGES.leaves(12, "x 16 of the greatest GRID", NONE, x -> Edges.full(x, 16, 16), x -> x.then(16, 0, 0));
        EDGES.leaves(12, "y 16 of the greatest GRID", NONE, x -> Edges.full(x, 16, 16), x -> x.then(0, 16, 0));
    }

    private static void thenEnds() {
        Edges.Ahead ball = x -> ballAt(x, 0);
        EDGES.leaves(12, "0 STEPS: as now", 1, ball, x -> x.then(0, 0, 0));
        EDGES.leaves(12, "0 STEPS: as now, another CELL", 0, ball, x -> x.then(1, 1, 0));
        EDGES.leaves(12, "60 STEPS, the greatest", 1, ball, x -> x.then(4, 4, 60));
        EDGES.leaves(12, "59 STEPS", 1, ball, x -> x.then(3, 3, 59));
        EDGES.leaves(12, "-60 STEPS, the least", 1, ball, x -> x.then(10, 10, -60));
        EDGES.leaves(12, "-59 STEPS", 1, ball, x -> x.then(11, 11, -59));
        EDGES.leaves(12, "BACK, closed round, to the last corner", 1, ball, x -> x.then(13, 13, -1));
        EDGES.leaves(12, "BACK: it is no longer there", 0, ball, x -> x.then(0, 0, -1));
        EDGES.leaves(12, "STEPS, closed round, to the first corner", 1, ball, x -> x.then(0, 0, 14));
        EDGES.is(12, "2 by 2, 1 STEP", 1, x -> { x.size(2, 2); x.toggle(0, 0); return x.then(1, 1, 1); });
        EDGES.is(12, "2 by 2, 2 STEPS, closed round", 1, x -> { x.size(2, 2); x.toggle(0, 0); return x.then(0, 0, 2); });
        EDGES.is(12, "2 by 2, 1 BACK, closed round", 1, x -> { x.size(2, 2); x.toggle(0, 0); return x.then(1, 1, -1); });
        EDGES.is(12, "the last CELL of the greatest GRID", 1, x -> { x.size(16, 16); x.toggle(0, 0); return x.then(15, 15, -1); });
        EDGES.is(12, "column 4, row 1, 0 STEPS", 1, x -> { x.size(6, 4); x.toggle(4, 1); return x.then(4, 1, 0); });
        EDGES.is(12, "column 5, row 0, 1 STEP", 1, x -> { x.size(6, 4); x.toggle(4, 1); return x.then(5, 0, 1); });
        EDGES.is(12, "column 1, row 4, 0 STEPS", 1, x -> { x.size(4, 6); x.toggle(1, 4); return x.then(1, 4, 0); });
        EDGES.is(12, "column 0, row 5, 1 STEP", 1, x -> { x.size(4, 6); x.toggle(1, 4); return x.then(0, 5, 1); });
    }

    private static void thenTimes() {
        int[] times = {-9999, -1, 1, 9999};
        for (int time : times) {
            EDGES.leaves(12, "from TIME " + time + " 1 STEP by PHASE 1", 1, x -> ballAt(x, time), x -> x.then(13, 13, 1));
            EDGES.leaves(12, "from TIME " + time + " 1 BACK by PHASE 0", 1, x -> ballAt(x, time), x -> x.then(1, 1, -1));
            EDGES.leaves(12, "from TIME " + time + " 60 STEPS", 1, x -> ballAt(x, time), x -> x.then(10, 10, 60));
            EDGES.leaves(12, "from TIME " + time + " 60 BACK", 1, x -> ballAt(x, time), x -> x.then(4, 4, -60));
        }
        EDGES.leaves(12, "from TIME -2 1 STEP by PHASE 0", 1, x -> ballAt(x, -2), x -> x.then(1, 1, 1));
        EDGES.leaves(12, "from TIME -2 1 BACK by PHASE 1", 1, x -> ballAt(x, -2), x -> x.then(13, 13, -1));
        EDGES.leaves(12, "from TIME 9998 2 STEPS, beyond 9999", 1, x -> ballAt(x, 9998), x -> x.then(2, 2, 2));
        EDGES.leaves(12, "from TIME -9998 2 BACK, beyond -9999", 1, x -> ballAt(x, -9998), x -> x.then(12, 12, -2));
    }

    private static void thenEmptyAndFull() {
        EDGES.leaves(12, "an empty GRID by ball", 0, x -> x.size(16, 16), x -> x.then(15, 15, 60));
        EDGES.leaves(12, "a full GRID by ball", 1, x -> Edges.full(x, 16, 16), x -> x.then(15, 15, 60));
        EDGES.is(12, "an empty GRID by flip, 59 STEPS", 1, x -> { x.size(16, 16); x.rule(3); return x.then(15, 15, 59); });
        EDGES.is(12, "an empty GRID by flip, 60 STEPS", 0, x -> { x.size(16, 16); x.rule(3); return x.then(15, 15, 60); });
        EDGES.is(12, "an empty GRID by flip, 59 BACK", 1, x -> { x.size(16, 16); x.rule(3); return x.then(15, 15, -59); });
    }

    private static void sumRefused() {
        for (int n : FAR) {
            EDGES.leaves(13, "a " + n + " is BAD", BAD, x -> x.sum(n, 0, 0, 0));
            EDGES.leaves(13, "b " + n + " is BAD", BAD, x -> x.sum(0, n, 0, 0));
            EDGES.leaves(13, "c " + n + " is BAD", BAD, x -> x.sum(0, 0, n, 0));
            EDGES.leaves(13, "d " + n + " is BAD", BAD, x -> x.sum(0, 0, 0, n));
            EDGES.leaves(13, "all " + n + " are BAD", BAD, x -> x.sum(n, n, n, n));
        }
    }

    private static void sumEnds() {
        for (int n : new int[] {-9, 9}) {
            Edges.Ahead full = x -> Edges.full(x, 2, 2);
            EDGES.leaves(13, "2 by 2 full, a " + n, 1000000 + n, full, x -> x.sum(n, 0, 0, 0));
            EDGES.leaves(13, "2 by 2 full, b " + n, 1000000 + n, full, x -> x.sum(0, n, 0, 0));
            EDGES.leaves(13, "2 by 2 full, c " + n, 1000000 + n, full, x -> x.sum(0, 0, n, 0));
            EDGES.leaves(13, "2 by 2 full, d " + n, 1000000 + n, full, x -> x.sum(0, 0, 0, n));
            EDGES.is(13, "16 by 16 full, all " + n, 1000000 + 256 * n, x -> { Edges.full(x, 16, 16); return x.sum(n, n, n, n); });
            EDGES.is(13, "16 by 16 full, a and d " + n, 1000000 + 128 * n, x -> { Edges.full(x, 16, 16); return x.sum(n, 0, 0, n); });
            EDGES.is(13, "16 by 16 empty, all " + n, 1000000, x -> { x.size(16, 16); return x.sum(n, n, n, n); });
        }
        EDGES.is(13, "16 by 16 full, all 0", 1000000, x -> { Edges.full(x, 16, 16); return x.sum(0, 0, 0, 0); });
        EDGES.is(13, "16 by 16 full, 9 and -9", 1000000, x -> { Edges.full(x, 16, 16); return x.sum(9, -9, -9, 9); });
    }

    private static void sumCorners() {
        int[][] corners = {{0, 0}, {7, 0}, {0, 5}, {7, 5}};
        for (int i = 0; i < 4; i++) {
            int[] at = corners[i];
            int weight = i + 1;
            EDGES.is(13, "corner " + at[0] + ", " + at[1] + " alone", 1000000 + weight, x -> { x.size(8, 6); x.toggle(at[0], at[1]); return x.sum(1, 2, 3, 4); });
            EDGES.is(13, "corner " + at[0] + ", " + at[1] + " alone, by PHASE 1 the same", 1000000 + weight, x -> {
                x.size(8, 6);
                x.steps(-1);
                x.toggle(at[0], at[1]);
                return x.sum(1, 2, 3, 4);
            });
        }
        EDGES.is(13, "the last CELL of the greatest GRID", 1000004, x -> { x.size(16, 16); x.toggle(15, 15); return x.sum(1, 2, 3, 4); });
        EDGES.is(13, "the last CELL of 2 by 16", 1000004, x -> { x.size(2, 16); x.toggle(1, 15); return x.sum(1, 2, 3, 4); });
        EDGES.is(13, "the last CELL of 16 by 2", 1000004, x -> { x.size(16, 2); x.toggle(15, 1); return x.sum(1, 2, 3, 4); });
    }

    private static void keptRefused() {
        for (int n : FAR) {
            EDGES.leaves(14, "a " + n + " is BAD", BAD, x -> x.kept(n, 0, 0, 0));
            EDGES.leaves(14, "b " + n + " is BAD", BAD, x -> x.kept(0, n, 0, 0));
            EDGES.leaves(14, "c " + n + " is BAD", BAD, x -> x.kept(0, 0, n, 0));
            EDGES.leaves(14, "d " + n + " is BAD", BAD, x -> x.kept(0, 0, 0, n));
            EDGES.leaves(14, "all " + n + " are BAD", BAD, x -> x.kept(n, n, n, n));
        }
    }

    private static void keptEnds() {
        Edges.Ahead ball = x -> { };
        for (int n : new int[] {-9, 9}) {
            EDGES.leaves(14, "all " + n + " by ball", 1, ball, x -> x.kept(n, n, n, n));
            EDGES.leaves(14, "a " + n + " alone by ball", 0, ball, x -> x.kept(n, 0, 0, 0));
            EDGES.leaves(14, "b " + n + " alone by ball", 0, ball, x -> x.kept(0, n, 0, 0));
            EDGES.leaves(14, "c " + n + " alone by ball", 0, ball, x -> x.kept(0, 0, n, 0));
            EDGES.leaves(14, "d " + n + " alone by ball", 0, ball, x -> x.kept(0, 0, 0, n));
            EDGES.is(14, "a " + n + " alone by same", 1, x -> { x.rule(0); return x.kept(n, 0, 0, 0); });
            EDGES.is(14, "d " + n + " alone by same", 1, x -> { x.rule(0); return x.kept(0, 0, 0, n); });
        }
        EDGES.is(14, "all 0 by flip", 1, x -> { x.rule(3); return x.kept(0, 0, 0, 0); });
        EDGES.is(14, "all 9 by flip", 0, x -> { x.rule(3); return x.kept(9, 9, 9, 9); });
        EDGES.is(14, "it is the RULE's: an empty GRID", 0, x -> { x.size(2, 2); return x.kept(9, 0, 0, 0); });
        EDGES.is(14, "it is the RULE's: a full GRID", 0, x -> { Edges.full(x, 2, 2); return x.kept(9, 0, 0, 0); });
    }

    /** The empty or the full BLOCK alone becomes another one. */
    private static void keptEmptyAndFull() {
        EDGES.is(14, "empty and full exchanged: the whole isn't 0", 0, x -> { exchanged(x, 0, 15); return x.kept(1, 1, 1, 1); });
        EDGES.is(14, "empty and full exchanged: the whole is 0", 1, x -> { exchanged(x, 0, 15); return x.kept(9, -9, -9, 9); });
        EDGES.is(14, "empty and full exchanged: the whole is 1", 0, x -> { exchanged(x, 0, 15); return x.kept(9, -9, -8, 9); });
        EDGES.is(14, "full and 14 exchanged: a and d are 0", 1, x -> { exchanged(x, 14, 15); return x.kept(0, 9, -9, 0); });
        EDGES.is(14, "full and 14 exchanged: a isn't 0", 0, x -> { exchanged(x, 14, 15); return x.kept(1, 9, -9, 0); });
        EDGES.is(14, "full and 14 exchanged: d isn't 0", 0, x -> { exchanged(x, 14, 15); return x.kept(0, 9, -9, 1); });
        EDGES.is(14, "full and 7 exchanged: a and d are 0", 1, x -> { exchanged(x, 7, 15); return x.kept(0, 9, -9, 0); });
        EDGES.is(14, "full and 7 exchanged: d isn't 0", 0, x -> { exchanged(x, 7, 15); return x.kept(0, 9, -9, 1); });
    }

    private static void exchanged(BlockCells x, int i, int j) {
        x.rule(0);
        x.change(i, j);
    }

    private static void keptPhases() {
        EDGES.is(14, "empty and upper left exchanged: a and d are 0", 1, x -> { exchanged(x, 0, 1); return x.kept(0, 9, -9, 0); });
        EDGES.is(14, "empty and upper left exchanged: not by PHASE 0", 0, x -> { exchanged(x, 0, 1); return x.kept(1, 0, 0, 0); });
        EDGES.is(14, "empty and upper left exchanged: not by PHASE 1", 0, x -> { exchanged(x, 0, 1); return x.kept(0, 0, 0, 1); });
        EDGES.is(14, "at an odd TIME: not by PHASE 0", 0, x -> { x.steps(1); exchanged(x, 0, 1); return x.kept(1, 0, 0, 0); });
        EDGES.is(14, "at an odd TIME: not by PHASE 1", 0, x -> { x.steps(1); exchanged(x, 0, 1); return x.kept(0, 0, 0, 1); });
        EDGES.is(14, "empty and upper right exchanged: b and c are 0", 1, x -> { exchanged(x, 0, 2); return x.kept(9, 0, 0, -9); });
        EDGES.is(14, "empty and upper right exchanged: not by PHASE 0", 0, x -> { exchanged(x, 0, 2); return x.kept(0, 1, 0, 0); });
        EDGES.is(14, "empty and upper right exchanged: not by PHASE 1", 0, x -> { exchanged(x, 0, 2); return x.kept(0, 0, 1, 0); });
        EDGES.is(14, "empty and lower left exchanged: b and c are 0", 1, x -> { exchanged(x, 0, 4); return x.kept(9, 0, 0, -9); });
        EDGES.is(14, "empty and lower left exchanged: not by PHASE 0", 0, x -> { exchanged(x, 0, 4); return x.kept(0, 0, 1, 0); });
        EDGES.is(14, "empty and lower left exchanged: not by PHASE 1", 0, x -> { exchanged(x, 0, 4); return x.kept(0, 1, 0, 0); });
        EDGES.is(14, "upper two for lower left: by both PHASES", 1, x -> { exchanged(x, 3, 4); return x.kept(1, 2, 3, -1); });
        EDGES.is(14, "upper two for lower left: by both PHASES, other WEIGHTS", 1, x -> { exchanged(x, 3, 4); return x.kept(1, 1, 2, -1); });
        EDGES.is(14, "upper two for lower left: by PHASE 0 alone", 0, x -> { exchanged(x, 3, 4); return x.kept(1, 2, 3, 4); });
        EDGES.is(14, "upper two for lower left: by PHASE 1 alone", 0, x -> { exchanged(x, 3, 4); return x.kept(4, 3, 1, 2); });
    }

    /** It comes again behind 128 STEPS, not ahead of that. */
    private static void round128(BlockCells x) {
        Check.read(x, "............../............../............../............../............../"
            + "#............./............../............#.");
        x.rule(2);
        x.change(5, 1);
        x.change(6, 7);
    }

    /** It comes again behind 130 STEPS, not ahead of that. */
    private static void round130(BlockCells x) {
        Check.read(x, "....../..#.../....../...#..");
        x.change(0, 12);
    }

    private static void againEnds() {
        EDGES.leaves(15, "behind 2 STEPS, the least: an empty GRID", 2, x -> { }, x -> x.again());
        EDGES.leaves(15, "behind 2 STEPS: a full GRID", 2, x -> Edges.full(x, 16, 16), x -> x.again());
        EDGES.leaves(15, "behind 2 STEPS: the least GRID", 2, x -> { x.size(2, 2); x.toggle(0, 0); }, x -> x.again());
        EDGES.is(15, "behind 128 STEPS, the greatest", 128, x -> { round128(x); return x.again(); });
        EDGES.is(15, "behind 130 STEPS: no longer", NEVER, x -> { round130(x); return x.again(); });
        EDGES.grid(15, "behind 130 STEPS: it is as it was", "....../..#.../....../...#..", x -> { round130(x); x.steps(130); });
        EDGES.leaves(15, "-5 changes nothing", NEVER, EdgesOfThoughtTest::round130, x -> x.again());
        EDGES.is(15, "behind 1 STEP it is as now: n is even", 4, x -> { Check.read(x, "##../##../..../...."); return x.again(); });
        EDGES.is(15, "2 by 2 by turn, closed round", 4, x -> { x.size(2, 2); x.rule(1); x.toggle(0, 0); return x.again(); });
        EDGES.is(15, "once round the greatest GRID", 16, x -> { x.size(16, 16); x.toggle(15, 15); return x.again(); });
        EDGES.is(15, "once round 2 by 16", 16, x -> { x.size(2, 16); x.toggle(1, 15); return x.again(); });
        EDGES.is(15, "once round 16 by 2", 16, x -> { x.size(16, 2); x.toggle(15, 1); return x.again(); });
        EDGES.is(15, "shifted is not again", 8, x -> { x.toggle(0, 0); return x.again(); });
    }

    private static void againTimes() {
        for (int time : new int[] {-9999, -9998, -1, 1, 9998, 9999}) {
            EDGES.leaves(15, "from TIME " + time, 14, x -> ballAt(x, time), x -> x.again());
        }
        EDGES.is(15, "from an even TIME by PHASE 0 first", 4, x -> { otherByPhase(x, 0); return x.again(); });
        EDGES.is(15, "from an odd TIME by PHASE 1 first", 12, x -> { otherByPhase(x, 1); return x.again(); });
        EDGES.is(15, "from an odd TIME below 0 by PHASE 1 first", 12, x -> { otherByPhase(x, -1); return x.again(); });
    }

    /** From an even TIME it comes again behind 4 STEPS, from an odd one behind 12. */
    private static void otherByPhase(BlockCells x, int time) {
        x.size(4, 2);
        x.steps(time);
        x.rule(1);
        x.change(6, 1);
        x.toggle(3, 0);
        x.toggle(1, 1);
    }

    private static void movedEnds() {
        for (int n : new int[] {MIN, -1, 3, MAX}) EDGES.leaves(16, "what " + n + " is NONE", NONE, x -> x.toggle(0, 0), x -> x.moved(n));
        EDGES.leaves(16, "behind 2 STEPS, the least", 2, x -> x.toggle(0, 0), x -> x.moved(0));
        Edges.Ahead by64 = x -> Check.read(x, "....#......./............/...#..#...../......#.....");
        EDGES.leaves(16, "behind 64 STEPS, the greatest: n", 64, by64, x -> x.moved(0));
        EDGES.leaves(16, "behind 64 STEPS: dx", 8, by64, x -> x.moved(1));
        EDGES.leaves(16, "behind 64 STEPS: dy", 0, by64, x -> x.moved(2));
        String by66 = "..........#.../..........#.../.#............/............../............../...#..........";
        for (int what = 0; what < 3; what++) {
            int each = what;
            EDGES.leaves(16, "behind 66 STEPS: no longer, what " + what, NEVER, x -> Check.read(x, by66), x -> x.moved(each));
            EDGES.is(16, "2 by 2: no shift but 0, 0, what " + what, NEVER, x -> { x.size(2, 2); x.toggle(0, 0); return x.moved(each); });
            EDGES.is(16, "as now, not shifted, what " + what, NEVER, x -> { x.rule(0); x.toggle(0, 0); return x.moved(each); });
        }
        EDGES.is(16, "2 by 2, empty", NEVER, x -> { x.size(2, 2); return x.moved(0); });
        EDGES.is(16, "2 by 2, full", NEVER, x -> { Edges.full(x, 2, 2); return x.moved(0); });
        EDGES.is(16, "behind 66 STEPS it is behind 64, two STEPS on", 64, x -> {
            Check.read(x, "....#......./............/...#..#...../......#.....");
            x.steps(2);
            return x.moved(0);
        });
    }

    private static void sideways(BlockCells x) {
        x.rule(0);
        x.change(1, 2);
        x.change(4, 8);
    }

    private static void upright(BlockCells x) {
        x.rule(0);
        x.change(1, 4);
        x.change(2, 8);
    }

    private static void shift(String edge, int dx, int dy, Edges.Ahead ahead) {
        EDGES.leaves(16, edge + ": n", 2, ahead, x -> x.moved(0));
        EDGES.leaves(16, edge + ": dx", dx, ahead, x -> x.moved(1));
        EDGES.leaves(16, edge + ": dy", dy, ahead, x -> x.moved(2));
    }

    private static void movedShifts() {
        shift("dx 2, the least but 0", 2, 0, x -> { x.size(16, 16); sideways(x); x.toggle(0, 0); });
        shift("dx W - 2, the greatest", 14, 0, x -> { x.size(16, 16); sideways(x); x.toggle(1, 0); });
        shift("dx W - 2 of 4", 2, 0, x -> { x.size(4, 4); sideways(x); x.toggle(1, 0); });
        shift("dx, closed round", 2, 0, x -> { x.size(16, 16); sideways(x); x.toggle(14, 15); });
        shift("dy 2, the least but 0", 0, 2, x -> { x.size(16, 16); upright(x); x.toggle(0, 0); });
        shift("dy H - 2, the greatest", 0, 14, x -> { x.size(16, 16); upright(x); x.toggle(0, 1); });
        shift("dy, closed round", 0, 2, x -> { x.size(16, 16); upright(x); x.toggle(15, 14); });
        shift("dx and dy 2", 2, 2, x -> { x.size(16, 16); x.toggle(0, 0); });
        shift("dx W - 2 and dy H - 2", 14, 14, x -> { x.size(16, 16); x.toggle(1, 1); });
        shift("dx W - 2 and dy 2", 14, 2, x -> { x.size(16, 16); x.toggle(1, 0); });
        shift("dx 2 and dy H - 2", 2, 14, x -> { x.size(16, 16); x.toggle(0, 1); });
        shift("2 by 16: dx 0", 0, 14, x -> { x.size(2, 16); x.toggle(1, 1); });
        shift("16 by 2: dy 0", 14, 0, x -> { x.size(16, 2); x.toggle(1, 1); });
        EDGES.is(16, "2 by 16, sideways: as now, not shifted", NEVER, x -> { x.size(2, 16); sideways(x); x.toggle(0, 0); return x.moved(0); });
        EDGES.is(16, "16 by 2, upright: as now, not shifted", NEVER, x -> { x.size(16, 2); upright(x); x.toggle(0, 0); return x.moved(0); });
    }

    private static void movedLeast() {
        shift("empty: the least dy, then dx", 2, 0, x -> x.size(16, 16));
        shift("full: the least dy, then dx", 2, 0, x -> Edges.full(x, 16, 16));
        shift("2 wide, empty: dx can't be", 0, 2, x -> x.size(2, 16));
        shift("2 high, empty: dy can't be", 2, 0, x -> x.size(16, 2));
        shift("same by dx 4 or dy 2: the least dy", 4, 0, x -> {
            Check.read(x, "#...#.../......../#...#.../........");
            x.rule(0);
        });
        shift("by dy 2 and dx 2 or 6: the least dx", 2, 2, x -> { x.toggle(0, 0); x.toggle(4, 0); });
        shift("by dx 2 and dy 2 or 6: the least dy", 2, 2, x -> { x.toggle(0, 0); x.toggle(0, 4); });
        shift("by 4, 0 or 0, 4 and others: the least dy goes ahead of the least dx", 4, 0, x -> {
            x.toggle(0, 0);
            x.toggle(2, 6);
            x.toggle(4, 4);
            x.toggle(6, 2);
        });
    }

    /** Shifted as now by 1, 2 and all its multiples, or by 2, 1: dx and dy are even. */
    private static void movedEven() {
        shift("by 1, 2 and 2, 4 and so on: dx is even", 2, 4, x -> {
            x.size(8, 16);
            x.rule(0);
            for (int i = 0; i < 8; i++) x.toggle(i, 2 * i);
        });
        shift("by 2, 1 and 4, 2 and so on: dy is even", 4, 2, x -> {
            x.size(16, 8);
            x.rule(0);
            for (int i = 0; i < 8; i++) x.toggle(2 * i, i);
        });
        EDGES.is(16, "by 3 of 6 columns alone: dx is even", NEVER, x -> { x.size(6, 6); x.rule(0); x.toggle(0, 0); x.toggle(3, 0); return x.moved(0); });
        EDGES.is(16, "by 3 of 6 rows alone: dy is even", NEVER, x -> { x.size(6, 6); x.rule(0); x.toggle(0, 0); x.toggle(0, 3); return x.moved(0); });
    }

    private static void movedTimes() {
        for (int time : new int[] {-9999, -1, 1, 9999}) {
            shift("from TIME " + time + " by PHASE 1 first", 12, 12, x -> ballAt(x, time));
        }
        for (int time : new int[] {-9998, -2, 2, 9998}) {
            shift("from TIME " + time + " by PHASE 0 first", 2, 2, x -> ballAt(x, time));
        }
    }

    private static void askedTwice() {
        EDGES.is(15, "asked twice", 128, x -> { round128(x); x.again(); return x.again(); });
        EDGES.is(15, "asked behind n 64 of UNLIKE", 128, x -> { round128(x); x.unlike(64); return x.again(); });
        EDGES.is(16, "dx asked behind n", 14, x -> { x.size(16, 16); x.toggle(1, 0); x.moved(0); return x.moved(1); });
        EDGES.is(16, "not MOVED behind MOVED", NEVER, x -> { x.toggle(0, 0); x.moved(1); x.size(2, 2); return x.moved(1); });
        EDGES.is(12, "60 asked behind -60", 1, x -> { ballAt(x, 0); x.then(0, 0, -60); return x.then(4, 4, 60); });
    }

    private static void unlikeEnds() {
        for (int n : new int[] {MIN, -1, 65, MAX}) EDGES.leaves(17, "n " + n + " is BAD", BAD, x -> x.unlike(n));
        EDGES.leaves(17, "n 0, the least", 1, x -> x.unlike(0));
        EDGES.is(17, "n 0 by flip", 1, x -> { x.rule(3); return x.unlike(0); });
        EDGES.is(17, "n 1", 2, x -> { x.toggle(0, 0); return x.unlike(1); });
        EDGES.is(17, "n 64, the greatest, all unlike", 65, x -> { round128(x); return x.unlike(64); });
        EDGES.is(17, "n 63, all unlike", 64, x -> { round128(x); return x.unlike(63); });
        EDGES.is(17, "n 15, once round but one", 16, x -> { x.size(16, 16); x.toggle(0, 0); return x.unlike(15); });
        EDGES.is(17, "n 16, once round", 16, x -> { x.size(16, 16); x.toggle(0, 0); return x.unlike(16); });
        EDGES.is(17, "n 64, four times round", 16, x -> { x.size(16, 16); x.toggle(0, 0); return x.unlike(64); });
        EDGES.is(17, "n 64, an empty GRID", 1, x -> x.unlike(64));
        EDGES.is(17, "n 64, a full GRID", 1, x -> { Edges.full(x, 16, 16); return x.unlike(64); });
        EDGES.is(17, "n 64, an empty GRID by flip", 2, x -> { x.size(16, 16); x.rule(3); return x.unlike(64); });
        EDGES.is(17, "two unlike in the last CELL alone", 2, x -> { x.size(2, 2); x.change(0, 8); return x.unlike(1); });
        EDGES.is(17, "2 by 16, four times round", 16, x -> { x.size(2, 16); x.toggle(0, 0); return x.unlike(64); });
        EDGES.is(17, "16 by 2, four times round", 16, x -> { x.size(16, 2); x.toggle(0, 0); return x.unlike(64); });
        EDGES.is(17, "the least GRID", 2, x -> { x.size(2, 2); x.toggle(0, 0); return x.unlike(64); });
        EDGES.is(17, "CELLS alone, not TIME", 1, x -> { x.toggle(0, 0); x.rule(0); return x.unlike(64); });
    }

    private static void unlikeGreatest() {
        EDGES.is(17, "n 64, all unlike, 16 high", 65, x -> { x.size(14, 16); x.toggle(0, 0); return x.unlike(64); });
        EDGES.is(17, "n 64, four times round from the middle", 16, x -> { x.size(16, 16); x.toggle(4, 4); return x.unlike(64); });
        EDGES.is(17, "n 64, the last as the last but one", 64, x -> { lastAlike(x); return x.unlike(64); });
        EDGES.is(17, "n 63, ahead of that", 64, x -> { lastAlike(x); return x.unlike(63); });
        EDGES.is(17, "n 64, asked twice", 65, x -> { round128(x); x.unlike(64); return x.unlike(64); });
        EDGES.is(17, "n 0, asked behind n 64", 1, x -> { round128(x); x.unlike(64); return x.unlike(0); });
    }

    /** At TIME 63 each BLOCK holds two CELLS side by side: by ball the GRID stays for that STEP. */
    private static void lastAlike(BlockCells x) {
        x.size(14, 16);
        x.steps(63);
        x.toggle(9, 1);
        x.toggle(9, 2);
        x.toggle(11, 8);
        x.toggle(12, 8);
        x.steps(-63);
    }

    private static void unlikeTimes() {
        for (int time : new int[] {-9999, -9998, -1, 1, 9998, 9999}) {
            EDGES.leaves(17, "n 64 from TIME " + time, 14, x -> ballAt(x, time), x -> x.unlike(64));
        }
        EDGES.is(17, "from an even TIME by PHASE 0 first", 1, x -> { Check.read(x, "##../##../..../...."); return x.unlike(1); });
        EDGES.is(17, "from an odd TIME by PHASE 1 first", 2, x -> { x.steps(-1); Check.read(x, "##../##../..../...."); return x.unlike(1); });
    }
}
