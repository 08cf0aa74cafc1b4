/** Boundary cases of promises 7 to 11: rule, change, becomes, steps, block. */
public final class EdgesOfRuleTest {
    private static final Edges EDGES = new Edges();
    private static final int NONE = Edges.NONE, BAD = Edges.BAD, STATE = Edges.STATE, MIN = Edges.MIN, MAX = Edges.MAX;

    public static void main(String[] args) {
        ruleEnds();
        ruleOther();
        emptyAndFullStates();
        change();
        changeRefused();
        becomes();
        stepsEnds();
        stepsRefused();
        stepsAllGo();
        stepsRound();
        stepsBackRound();
        stepsRoundLeast();
        stepsBelowZero();
        stepsAtTheEnds();
        stepsEmptyAndFull();
        blockCorners();
        blockEdges();
        blockTimes();
        blockEnds();
        EDGES.end();
    }

    private static void ruleEnds() {
        for (int n : new int[] {MIN, -1, 5, MAX}) EDGES.leaves(7, "word " + n + " is NONE", NONE, x -> x.rule(n));
        EDGES.is(7, "word 0, the least: another RULE", 1, x -> x.rule(0));
        EDGES.is(7, "word 4, the greatest: another RULE", 1, x -> { x.rule(0); return x.rule(4); });
        for (int word = 0; word < 5; word++) {
            int each = word;
            EDGES.leaves(7, "word " + word + " once more: 0", 0, x -> { Edges.rich(x); x.rule(each); }, x -> x.rule(each));
        }
        EDGES.is(7, "word 0 is same", 1, x -> { x.rule(0); return x.becomes(1, false); });
        EDGES.is(7, "word 1 is turn", 2, x -> { x.rule(1); return x.becomes(1, false); });
        EDGES.is(7, "word 2 is back", 4, x -> { x.rule(2); return x.becomes(1, false); });
        EDGES.is(7, "word 3 is flip", 14, x -> { x.rule(3); return x.becomes(1, false); });
        EDGES.is(7, "word 4 is ball", 8, x -> { x.rule(0); x.rule(4); return x.becomes(1, false); });
        EDGES.is(7, "CHANGES stay", 12, x -> { Edges.changes(x, 12); x.rule(1); return x.told(5); });
        EDGES.is(7, "COUNT stays", 256, x -> { Edges.full(x, 16, 16); x.rule(1); return x.told(4); });
        EDGES.is(7, "TIME stays", 1, x -> { Edges.toTime(x, -9999); x.rule(1); return x.told(2); });
    }

    private static void ruleOther() {
        for (int i = 0; i < 15; i++) {
            int state = i;
            EDGES.is(7, "STATES " + i + " and " + (i + 1) + " alone become others", 1, x -> { x.change(state, state + 1); return x.rule(4); });
        }
        EDGES.is(7, "STATES 0 and 15 alone become others", 1, x -> { x.change(0, 15); return x.rule(4); });
        EDGES.is(7, "exchanged there and back: 0", 0, x -> { x.change(0, 15); x.change(15, 0); return x.rule(4); });
        EDGES.is(7, "behind exchanges, once more: 0", 0, x -> { x.change(0, 15); x.rule(4); return x.rule(4); });
        EDGES.is(7, "behind NONE: 0", 0, x -> { x.rule(5); x.rule(-1); return x.rule(4); });
    }

    private static void emptyAndFullStates() {
        int[] ofEmpty = {0, 0, 0, 15, 0};
        int[] ofFull = {15, 15, 15, 0, 15};
        for (int w = 0; w < 5; w++) {
            int word = w;
            EDGES.is(7, "word " + w + " of the empty BLOCK", ofEmpty[w], x -> { x.rule(word); return x.becomes(0, false); });
            EDGES.is(7, "word " + w + " of the full BLOCK", ofFull[w], x -> { x.rule(word); return x.becomes(15, false); });
            EDGES.is(7, "word " + w + " back of the empty BLOCK", ofEmpty[w], x -> { x.rule(word); return x.becomes(0, true); });
            EDGES.is(7, "word " + w + " back of the full BLOCK", ofFull[w], x -> { x.rule(word); return x.becomes(15, true); });
            EDGES.is(7, "word " + w + ": no two STATES become the same", 65535, x -> { x.rule(word); return reached(x); });
        }
    }

    /** A bit for each STATE that any becomes. */
    private static int reached(BlockCells x) {
        int bits = 0;
        for (int state = 0; state < 16; state++) bits |= 1 << x.becomes(state, false);
        return bits;
    }

    private static void change() {
        EDGES.is(8, "i 0, the least, j 15, the greatest", 15, x -> x.change(0, 15));
        EDGES.is(8, "i 15, the greatest, j 0, the least", 0, x -> x.change(15, 0));
        EDGES.is(8, "i 0: what j becomes then", 0, x -> { x.change(0, 15); return x.becomes(15, false); });
        EDGES.is(8, "i 15: what j becomes then", 15, x -> { x.change(15, 0); return x.becomes(0, false); });
        EDGES.is(8, "which becomes 0 then", 15, x -> { x.change(0, 15); return x.becomes(0, true); });
        EDGES.is(8, "which becomes 15 then", 0, x -> { x.change(0, 15); return x.becomes(15, true); });
        EDGES.is(8, "neighbours 14 and 15", 15, x -> x.change(14, 15));
        EDGES.is(8, "neighbours 0 and 1", 8, x -> x.change(0, 1));
        EDGES.is(8, "no two STATES become the same", 65535, x -> {
            x.change(0, 15);
            x.change(15, 7);
            x.change(7, 0);
            x.change(1, 0);
            return reached(x);
        });
        EDGES.is(8, "the others become what they did", 9, x -> { x.change(0, 15); return x.becomes(6, false); });
        EDGES.is(8, "CHANGES of CELLS stay", 12, x -> { Edges.changes(x, 12); x.change(0, 15); return x.told(5); });
    }

    private static void changeRefused() {
        for (int n : new int[] {MIN, -1, 16, MAX}) {
            EDGES.leaves(8, "i " + n + " is NONE", NONE, x -> x.change(n, 0));
            EDGES.leaves(8, "j " + n + " is NONE", NONE, x -> x.change(0, n));
            EDGES.leaves(8, "i and j " + n + " are NONE", NONE, x -> x.change(n, n));
        }
        EDGES.leaves(8, "i the least, j the greatest int", NONE, x -> x.change(MIN, MAX));
        for (int n : new int[] {0, 1, 14, 15}) EDGES.leaves(8, "i and j the same, " + n, NONE, x -> x.change(n, n));
    }

    private static void becomes() {
        for (int n : new int[] {MIN, -1, 16, MAX}) {
            EDGES.leaves(9, "state " + n + " is NONE", NONE, x -> x.becomes(n, false));
            EDGES.leaves(9, "state " + n + ", back, is NONE", NONE, x -> x.becomes(n, true));
        }
        EDGES.leaves(9, "state 0, the least", 9, x -> x.becomes(0, false));
        EDGES.leaves(9, "state 0, back", 6, x -> x.becomes(0, true));
        EDGES.leaves(9, "state 15, the greatest", 15, x -> x.becomes(15, false));
        EDGES.leaves(9, "state 15, back", 15, x -> x.becomes(15, true));
        for (int s = 0; s < 16; s++) {
            int state = s;
            EDGES.is(9, "forward and back is " + s, s, x -> { Edges.richButTape(x); return x.becomes(x.becomes(state, false), true); });
        }
    }

    private static void stepsEnds() {
        EDGES.is(10, "200 STEPS, the greatest", 10200, x -> x.steps(200));
        EDGES.is(10, "-200 STEPS, the least", 9800, x -> x.steps(-200));
        EDGES.leaves(10, "0 STEPS", 9997, x -> x.steps(0));
        EDGES.is(10, "1 STEP", 10001, x -> x.steps(1));
        EDGES.is(10, "1 BACK, below 0", 9999, x -> x.steps(-1));
        EDGES.is(10, "to TIME 9999", 19999, x -> { Edges.toTime(x, 9998); return x.steps(1); });
        EDGES.is(10, "to TIME 9999 by 200", 19999, x -> { Edges.toTime(x, 9799); return x.steps(200); });
        EDGES.is(10, "to TIME -9999", 1, x -> { Edges.toTime(x, -9998); return x.steps(-1); });
        EDGES.is(10, "to TIME -9999 by 200", 1, x -> { Edges.toTime(x, -9799); return x.steps(-200); });
        EDGES.is(10, "200 BACK from TIME 9999", 19799, x -> { Edges.toTime(x, 9999); return x.steps(-200); });
        EDGES.is(10, "200 STEPS from TIME -9999", 201, x -> { Edges.toTime(x, -9999); return x.steps(200); });
        EDGES.is(10, "through TIME 0", 10100, x -> { Edges.toTime(x, -100); return x.steps(200); });
    }

    private static void stepsRefused() {
        for (int n : new int[] {MIN, MIN + 1, -201, 201, MAX}) EDGES.leaves(10, n + " STEPS are BAD", BAD, x -> x.steps(n));
        Edges.Ahead last = x -> { Edges.toTime(x, 9999); Edges.changes(x, 3); };
        Edges.Ahead first = x -> { Edges.toTime(x, -9999); Edges.changes(x, 3); };
        EDGES.leaves(10, "1 STEP beyond TIME 9999", STATE, last, x -> x.steps(1));
        EDGES.leaves(10, "200 STEPS beyond TIME 9999", STATE, last, x -> x.steps(200));
        EDGES.leaves(10, "1 BACK beyond TIME -9999", STATE, first, x -> x.steps(-1));
        EDGES.leaves(10, "200 BACK beyond TIME -9999", STATE, first, x -> x.steps(-200));
        EDGES.leaves(10, "2 STEPS from TIME 9998", STATE, x -> { Edges.toTime(x, 9998); x.toggle(0, 0); }, x -> x.steps(2));
        EDGES.leaves(10, "2 BACK from TIME -9998", STATE, x -> { Edges.toTime(x, -9998); x.toggle(0, 0); }, x -> x.steps(-2));
        EDGES.leaves(10, "200 STEPS from TIME 9800", STATE, x -> { Edges.toTime(x, 9800); x.toggle(0, 0); }, x -> x.steps(200));
        EDGES.leaves(10, "200 BACK from TIME -9800", STATE, x -> { Edges.toTime(x, -9800); x.toggle(0, 0); }, x -> x.steps(-200));
        EDGES.leaves(10, "201 at TIME 9999: BAD goes ahead of STATE", BAD, last, x -> x.steps(201));
        EDGES.leaves(10, "-201 at TIME -9999: BAD goes ahead of STATE", BAD, first, x -> x.steps(-201));
        EDGES.leaves(10, "the greatest int at TIME 9999", BAD, last, x -> x.steps(MAX));
        EDGES.leaves(10, "the least int at TIME -9999", BAD, first, x -> x.steps(MIN));
        EDGES.leaves(10, "0 STEPS at TIME 9999", 19999, last, x -> x.steps(0));
        EDGES.leaves(10, "0 STEPS at TIME -9999", 1, first, x -> x.steps(0));
    }

    /** A ball from 0, 0 at an even TIME is n columns and rows on, modulo 14. */
    private static void stepsAllGo() {
        int[] all = {199, 200, -199, -200};
        int[] places = {3, 4, 11, 10};
        for (int i = 0; i < all.length; i++) {
            int n = all[i];
            int place = places[i];
            EDGES.is(10, n + " STEPS all go", 1, x -> { x.size(14, 14); x.toggle(0, 0); x.steps(n); return x.cell(place, place); });
            EDGES.is(10, n + " STEPS and as many back", 1, x -> { x.size(14, 14); x.toggle(0, 0); x.steps(n); x.steps(-n); return x.cell(0, 0); });
        }
        EDGES.grid(10, "forward and back exactly through TIME 0", "#.#./.#../...#/##..", x -> {
            Check.read(x, "#.#./.#../...#/##..");
            x.steps(-100);
            x.steps(200);
            x.steps(-100);
        });
    }

    /** By the RULE turn the CELL of column i, row j alone goes where; at an odd TIME. */
    private static void stepsRound() {
        int[][] ways = {
            {0, 0, 3, 0}, {3, 0, 3, 3}, {3, 3, 0, 3}, {0, 3, 0, 0},
            {1, 0, 1, 3}, {2, 0, 1, 0}, {1, 3, 2, 3}, {2, 3, 2, 0},
            {0, 1, 0, 2}, {3, 1, 0, 1}, {0, 2, 3, 2}, {3, 2, 3, 1},
            {1, 1, 2, 1}, {2, 2, 1, 2},
        };
        for (int[] way : ways) {
            String name = "PHASE 1, closed round, CELL " + way[0] + ", " + way[1];
            EDGES.is(10, name, 1, x -> { turnOnOdd(x, way[0], way[1], 1); return x.cell(way[2], way[3]); });
            EDGES.is(10, name + " alone", 1, x -> { turnOnOdd(x, way[0], way[1], 1); return x.told(4); });
        }
        int[][] plain = {{0, 0, 1, 0}, {3, 0, 3, 1}, {3, 3, 2, 3}, {0, 3, 0, 2}};
        for (int[] way : plain) {
            EDGES.is(10, "PHASE 0, not closed round, corner " + way[0] + ", " + way[1], 1, x -> {
                x.size(4, 4);
                x.rule(1);
                x.toggle(way[0], way[1]);
                x.steps(1);
                return x.cell(way[2], way[3]);
            });
        }
        EDGES.is(10, "PHASE 1, closed round, the last corner of the greatest GRID", 1, x -> {
            x.size(16, 16);
            x.rule(1);
            x.steps(1);
            x.toggle(15, 15);
            x.steps(1);
            return x.cell(0, 15);
        });
    }

    private static void turnOnOdd(BlockCells x, int column, int row, int n) {
        x.size(4, 4);
        x.rule(1);
        x.steps(n > 0 ? 1 : 2);
        x.toggle(column, row);
        x.steps(n);
    }

    private static void stepsBackRound() {
        int[][] ways = {
            {3, 0, 0, 0}, {3, 3, 3, 0}, {0, 3, 3, 3}, {0, 0, 0, 3},
            {1, 3, 1, 0}, {1, 0, 2, 0}, {0, 2, 0, 1}, {0, 1, 3, 1},
        };
        for (int[] way : ways) {
            EDGES.is(10, "BACK by PHASE 1, closed round, CELL " + way[0] + ", " + way[1], 1, x -> {
                turnOnOdd(x, way[0], way[1], -1);
                return x.cell(way[2], way[3]);
            });
        }
    }

    private static void stepsRoundLeast() {
        int[][] ways = {{0, 0, 1, 0}, {1, 0, 1, 1}, {1, 1, 0, 1}, {0, 1, 0, 0}};
        for (int[] way : ways) {
            EDGES.is(10, "2 by 2, PHASE 1, CELL " + way[0] + ", " + way[1], 1, x -> {
                x.size(2, 2);
                x.rule(1);
                x.steps(1);
                x.toggle(way[0], way[1]);
                x.steps(1);
                return x.cell(way[2], way[3]);
            });
        }
        EDGES.is(10, "2 by 16, PHASE 1, the last corner", 1, x -> { x.size(2, 16); x.rule(1); x.steps(1); x.toggle(1, 15); x.steps(1); return x.cell(0, 15); });
        EDGES.is(10, "16 by 2, PHASE 1, the last corner", 1, x -> { x.size(16, 2); x.rule(1); x.steps(1); x.toggle(15, 1); x.steps(1); return x.cell(0, 1); });
        EDGES.is(10, "2 by 16, PHASE 1, the first corner", 1, x -> { x.size(2, 16); x.steps(1); x.toggle(0, 0); x.steps(1); return x.cell(1, 15); });
        EDGES.is(10, "16 by 2, PHASE 1, the first corner", 1, x -> { x.size(16, 2); x.steps(1); x.toggle(0, 0); x.steps(1); return x.cell(15, 1); });
    }

    /** By the RULE turn, CELL 0, 0 alone at a TIME: by PHASE 0 it is upper left, by PHASE 1 lower right. */
    private static int turnedTo(BlockCells x, int time, int n, int column, int row) {
        x.size(4, 4);
        Edges.toTime(x, time);
        x.rule(1);
        x.toggle(0, 0);
        x.steps(n);
        return x.cell(column, row);
    }

    private static void stepsBelowZero() {
        EDGES.is(10, "BACK from TIME 0 goes by PHASE 1", 1, x -> turnedTo(x, 0, -1, 0, 3));
        EDGES.is(10, "BACK from TIME 1 goes by PHASE 0", 1, x -> turnedTo(x, 1, -1, 0, 1));
        EDGES.is(10, "BACK from TIME -1 goes by PHASE 0", 1, x -> turnedTo(x, -1, -1, 0, 1));
        EDGES.is(10, "BACK from TIME -2 goes by PHASE 1", 1, x -> turnedTo(x, -2, -1, 0, 3));
        EDGES.is(10, "a STEP from TIME -1 goes by PHASE 1", 1, x -> turnedTo(x, -1, 1, 3, 0));
        EDGES.is(10, "a STEP from TIME -2 goes by PHASE 0", 1, x -> turnedTo(x, -2, 1, 1, 0));
        EDGES.is(10, "a STEP from TIME 0 goes by PHASE 0", 1, x -> turnedTo(x, 0, 1, 1, 0));
        EDGES.is(10, "a STEP from TIME 1 goes by PHASE 1", 1, x -> turnedTo(x, 1, 1, 3, 0));
    }

    private static void stepsAtTheEnds() {
        EDGES.is(10, "the last STEP, from TIME 9998, goes by PHASE 0", 1, x -> turnedTo(x, 9998, 1, 1, 0));
        EDGES.is(10, "BACK from TIME 9999 goes by PHASE 0", 1, x -> turnedTo(x, 9999, -1, 0, 1));
        EDGES.is(10, "the last BACK, from TIME -9998, goes by PHASE 1", 1, x -> turnedTo(x, -9998, -1, 0, 3));
        EDGES.is(10, "a STEP from TIME -9999 goes by PHASE 1", 1, x -> turnedTo(x, -9999, 1, 3, 0));
        EDGES.is(10, "refused at TIME 9999: the CELL stays", 1, x -> turnedTo(x, 9999, 1, 0, 0));
        EDGES.is(10, "refused at TIME -9999: the CELL stays", 1, x -> turnedTo(x, -9999, -1, 0, 0));
    }

    private static void stepsEmptyAndFull() {
        EDGES.is(10, "flip, an empty GRID", 256, x -> { x.size(16, 16); x.rule(3); x.steps(1); return x.told(4); });
        EDGES.is(10, "flip, an empty GRID, PHASE 1", 256, x -> { x.size(16, 16); x.steps(1); x.rule(3); x.steps(1); return x.told(4); });
        EDGES.is(10, "flip BACK, an empty GRID", 256, x -> { x.size(16, 16); x.rule(3); x.steps(-1); return x.told(4); });
        EDGES.is(10, "flip, a full GRID", 0, x -> { Edges.full(x, 16, 16); x.rule(3); x.steps(1); return x.told(4); });
        EDGES.is(10, "ball, a full GRID", 256, x -> { Edges.full(x, 16, 16); x.steps(3); return x.told(4); });
        EDGES.is(10, "ball, an empty GRID", 0, x -> { x.size(16, 16); x.steps(3); return x.told(4); });
        EDGES.is(10, "empty becomes full, the least GRID", 4, x -> { x.size(2, 2); x.change(0, 15); x.steps(1); return x.told(4); });
        EDGES.is(10, "CHANGES stay", 12, x -> { Edges.changes(x, 12); x.steps(2); x.steps(-2); return x.told(5); });
    }

    private static void blockCorners() {
        int[][] corners = {{3, 3}, {0, 3}, {3, 0}, {0, 0}};
        for (int i = 0; i < 4; i++) {
            int[] one = corners[i];
            int bit = 1 << i;
            for (int[] at : corners) {
                EDGES.is(11, "PHASE 1: corner " + one[0] + ", " + one[1] + " alone, of " + at[0] + ", " + at[1], bit, x -> {
                    x.size(4, 4);
                    x.steps(1);
                    x.toggle(one[0], one[1]);
                    return x.block(at[0], at[1]);
                });
            }
            int plain = 1 << 3 - i;
            EDGES.is(11, "PHASE 0: corner " + one[0] + ", " + one[1] + " alone", plain, x -> { x.size(4, 4); x.toggle(one[0], one[1]); return x.block(one[0], one[1]); });
            EDGES.is(11, "PHASE 0: corner " + one[0] + ", " + one[1] + " isn't of the opposite BLOCK", 0, x -> {
                x.size(4, 4);
                x.toggle(one[0], one[1]);
                return x.block(3 - one[0], 3 - one[1]);
            });
        }
        int[][] least = {{1, 1}, {0, 1}, {1, 0}, {0, 0}};
        for (int i = 0; i < 4; i++) {
            int[] one = least[i];
            int bit = 1 << i;
            EDGES.is(11, "2 by 2, PHASE 1: " + one[0] + ", " + one[1] + " alone", bit, x -> { x.size(2, 2); x.steps(1); x.toggle(one[0], one[1]); return x.block(0, 0); });
        }
        EDGES.is(11, "16 by 16, PHASE 1: the last corner, of the first", 1, x -> { x.size(16, 16); x.steps(1); x.toggle(15, 15); return x.block(0, 0); });
        EDGES.is(11, "2 by 16, PHASE 1: the last corner, of the first", 1, x -> { x.size(2, 16); x.steps(1); x.toggle(1, 15); return x.block(0, 0); });
        EDGES.is(11, "16 by 2, PHASE 1: the last corner, of the first", 1, x -> { x.size(16, 2); x.steps(1); x.toggle(15, 1); return x.block(0, 0); });
    }

    /** By PHASE 1: a CELL alone at an edge, and the one across from it asked. */
    private static void blockEdges() {
        int[][] cases = {
            {1, 3, 2, 0, 1}, {2, 3, 1, 0, 2}, {1, 0, 2, 3, 4}, {2, 0, 1, 3, 8},
            {3, 1, 0, 2, 1}, {0, 1, 3, 2, 2}, {3, 2, 0, 1, 4}, {0, 2, 3, 1, 8},
        };
        for (int[] c : cases) {
            EDGES.is(11, "PHASE 1: edge " + c[0] + ", " + c[1] + " alone, of " + c[2] + ", " + c[3], c[4], x -> {
                x.size(4, 4);
                x.steps(1);
                x.toggle(c[0], c[1]);
                return x.block(c[2], c[3]);
            });
        }
        EDGES.is(11, "PHASE 1: four corners are one BLOCK", 15, x -> { four(x); return x.block(3, 0); });
        EDGES.is(11, "PHASE 1: an edge's BLOCK has no corner", 0, x -> { four(x); return x.block(1, 0); });
        EDGES.is(11, "PHASE 1: the middle BLOCK has no corner", 0, x -> { four(x); return x.block(2, 2); });
    }

    private static void four(BlockCells x) {
        Check.read(x, "#..#/..../..../#..#");
        x.rule(0);
        x.steps(1);
    }

    private static void blockTimes() {
        for (int time : new int[] {-9999, -3, -1, 1, 9999}) {
            EDGES.is(11, "TIME " + time + ": PHASE 1", 8, x -> { Edges.toTime(x, time); x.toggle(0, 0); return x.block(7, 7); });
        }
        for (int time : new int[] {-9998, -2, 0, 2, 9998}) {
            EDGES.is(11, "TIME " + time + ": PHASE 0", 1, x -> { Edges.toTime(x, time); x.toggle(0, 0); return x.block(1, 1); });
            EDGES.is(11, "TIME " + time + ": PHASE 0, not closed round", 0, x -> { Edges.toTime(x, time); x.toggle(0, 0); return x.block(7, 7); });
        }
    }

    private static void blockEnds() {
        for (int n : new int[] {MIN, -1, 4, 5, 16, MAX}) EDGES.leaves(11, "x " + n + " is NONE", NONE, x -> x.block(n, 0));
        for (int n : new int[] {MIN, -1, 6, 16, MAX}) EDGES.leaves(11, "y " + n + " is NONE", NONE, x -> x.block(0, n));
        EDGES.leaves(11, "x 16 of the greatest GRID", NONE, x -> Edges.full(x, 16, 16), x -> x.block(16, 0));
        EDGES.leaves(11, "y 16 of the greatest GRID", NONE, x -> Edges.full(x, 16, 16), x -> x.block(0, 16));
        EDGES.leaves(11, "an empty BLOCK", 0, x -> { }, x -> x.block(7, 7));
        EDGES.leaves(11, "a full BLOCK", 15, x -> Edges.full(x, 16, 16), x -> x.block(15, 15));
        EDGES.leaves(11, "a full BLOCK, PHASE 1", 15, x -> { Edges.full(x, 16, 16); x.steps(1); }, x -> x.block(0, 15));
    }
}
