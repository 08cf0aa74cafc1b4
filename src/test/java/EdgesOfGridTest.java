/** Boundary cases of promises 1 to 6: a new object, size, toggle, undo, cell, told. */
public final class EdgesOfGridTest {
    private static final Edges EDGES = new Edges();
    private static final int NONE = Edges.NONE, BAD = Edges.BAD, STATE = Edges.STATE, MIN = Edges.MIN, MAX = Edges.MAX;

    public static void main(String[] args) {
        newObject();
        newTexts();
        sides();
        sizeEmpties();
        sizeStays();
        toggleCorners();
        toggleNone();
        undoEnds();
        undoState();
        undoTimes();
        undoGone();
        undoStays();
        cell();
        toldEnds();
        toldTime();
        toldCells();
        toldChanges();
        toldThings();
        EDGES.end();
    }

    private static void newObject() {
        EDGES.is(1, "W at first", 8, x -> x.told(0));
        EDGES.is(1, "H at first", 8, x -> x.told(1));
        EDGES.is(1, "TIME at first 0", 10000, x -> x.told(2));
        EDGES.is(1, "PHASE at first 0", 0, x -> x.told(3));
        EDGES.is(1, "COUNT at first 0", 0, x -> x.told(4));
        EDGES.is(1, "no CHANGE at first", 0, x -> x.told(5));
        EDGES.is(1, "no THING at first", 0, x -> x.told(6));
        EDGES.is(1, "no SHAPE at first", 0, x -> x.told(7));
        EDGES.is(1, "nothing can be UNDONE at first", STATE, x -> x.undo());
        EDGES.is(1, "no IMAGE at first", STATE, x -> x.back());
        EDGES.is(1, "the RULE at first is word 4", 0, x -> x.rule(4));
        EDGES.grid(1, "all CELLS 0 at first", "........" + "/........".repeat(7), x -> { });
        int[] ball = {0, 8, 4, 3, 2, 5, 9, 7, 1, 6, 10, 11, 12, 13, 14, 15};
        for (int s = 0; s < 16; s++) {
            int state = s;
            EDGES.is(1, "the RULE at first of STATE " + state, ball[state], x -> x.becomes(state, false));
            EDGES.is(1, "the RULE at first back of STATE " + state, state, x -> x.becomes(ball[state], true));
        }
        EDGES.is(1, "the 512th call", 0, x -> {
            for (int i = 1; i < 512; i++) x.toggle(7, 7);
            return x.toggle(7, 7);
        });
    }

    private static void newTexts() {
        EDGES.is(1, "no SEEN at first", 0, x -> x.count(0));
        EDGES.is(1, "no EVENTS at first", 0, x -> x.count(1));
        EDGES.is(1, "THE TAPE at first empty", 0, x -> x.count(2));
        EDGES.is(1, "THE PAPER at first holds nothing", 0, x -> x.count(3));
        EDGES.is(1, "byte 0 of THE PAPER at first", -5, x -> x.paper(0));
        for (int list = 0; list < 4; list++) {
            int each = list;
            EDGES.is(1, "LIST " + list + " at first holds nothing", -11, x -> x.set(each, 0, 1));
            EDGES.is(1, "place 0 of LIST " + list + " at first", BlockCells.NO, x -> x.get(each, 0));
        }
        EDGES.is(1, "NO is the least long", Long.MIN_VALUE, x -> BlockCells.NO);
        EDGES.is(1, "NONE is -1", -1, x -> BlockCells.NONE);
        EDGES.is(1, "BAD is -2", -2, x -> BlockCells.BAD);
        EDGES.is(1, "STATE is -3", -3, x -> BlockCells.STATE);
        EDGES.is(1, "FULL is -4", -4, x -> BlockCells.FULL);
    }

    private static void sides() {
        for (int n : new int[] {MIN, MIN + 1, -16, -2, -1, 0, 1, 3, 15, 17, 18, 32, MAX - 1, MAX}) {
            EDGES.leaves(2, "w " + n + " is BAD", BAD, x -> x.size(n, 8));
            EDGES.leaves(2, "h " + n + " is BAD", BAD, x -> x.size(8, n));
        }
        EDGES.leaves(2, "w and h just below the least", BAD, x -> x.size(1, 1));
        EDGES.leaves(2, "w and h just above the greatest", BAD, x -> x.size(17, 17));
        EDGES.leaves(2, "w the least, h the greatest int", BAD, x -> x.size(MIN, MAX));
        for (int n : new int[] {2, 4, 14, 16}) {
            EDGES.is(2, "w " + n + ": as they were", 808, x -> x.size(n, 8));
            EDGES.is(2, "h " + n + ": as they were", 808, x -> x.size(8, n));
            EDGES.is(2, "w " + n + " becomes W", n, x -> { x.size(n, 6); return x.told(0); });
            EDGES.is(2, "h " + n + " becomes H", n, x -> { x.size(6, n); return x.told(1); });
        }
        EDGES.is(2, "both the least: as they were", 202, x -> { x.size(2, 2); return x.size(8, 8); });
        EDGES.is(2, "both the greatest: as they were", 1616, x -> { x.size(16, 16); return x.size(8, 8); });
        EDGES.is(2, "the least W, the greatest H: as they were", 216, x -> { x.size(2, 16); return x.size(8, 8); });
        EDGES.is(2, "the greatest W, the least H: as they were", 1602, x -> { x.size(16, 2); return x.size(8, 8); });
        EDGES.is(2, "behind BAD sides: as they were", 808, x -> { x.size(3, 2); return x.size(2, 2); });
    }

    private static void sizeEmpties() {
        EDGES.is(2, "full, the same sides: all CELLS 0", 0, x -> { Edges.full(x, 16, 16); x.size(16, 16); return x.told(4); });
        EDGES.is(2, "full, the least sides: all CELLS 0", 0, x -> { Edges.full(x, 16, 16); x.size(2, 2); return x.told(4); });
        EDGES.is(2, "less and greater again: no CELL comes again", 0, x -> {
            Edges.full(x, 16, 16);
            x.size(2, 2);
            x.size(16, 16);
            return x.told(4);
        });
        EDGES.is(2, "the last CELL is 0", 0, x -> { Edges.full(x, 16, 16); x.size(16, 16); return x.cell(15, 15); });
        for (int time : new int[] {-9999, -1, 1, 9999}) {
            EDGES.is(2, "TIME " + time + " becomes 0", 10000, x -> { Edges.toTime(x, time); x.size(8, 8); return x.told(2); });
            EDGES.is(2, "PHASE of TIME " + time + " becomes 0", 0, x -> { Edges.toTime(x, time); x.size(8, 8); return x.told(3); });
        }
        for (int n : new int[] {1, 12, 13}) {
            EDGES.is(2, n + " CHANGES: none can be UNDONE", 0, x -> { Edges.changes(x, n); x.size(8, 8); return x.told(5); });
            EDGES.is(2, n + " CHANGES: STATE", STATE, x -> { Edges.changes(x, n); x.size(8, 8); return x.undo(); });
        }
        EDGES.is(2, "a CHANGE of another TIME is gone, too", STATE, x -> {
            x.steps(1);
            x.toggle(0, 0);
            x.size(8, 8);
            x.steps(1);
            return x.undo();
        });
    }

    private static void sizeStays() {
        EDGES.is(2, "the RULE stays", 15, x -> { x.change(0, 15); x.size(2, 2); return x.becomes(0, false); });
        EDGES.is(2, "THE TAPE stays", 1, x -> { x.feed(46); x.size(2, 2); return x.count(2); });
        EDGES.is(2, "THE PAPER stays", 71, x -> { x.spell(); x.size(2, 2); return x.count(3); });
        EDGES.is(2, "LISTS stay", 7, x -> { x.list(3, 20); x.set(3, 19, 7); x.size(2, 2); return x.get(3, 19); });
        EDGES.is(2, "SEEN stay", 1, x -> { x.see(0, 0, 0); x.size(2, 2); return x.count(0); });
        EDGES.is(2, "EVENTS stay", 1, x -> { x.event(1, 1); x.size(2, 2); return x.count(1); });
        EDGES.is(2, "THE IMAGE stays", 1, x -> { x.toggle(0, 0); x.image(); x.size(2, 2); return x.back(); });
    }

    private static void toggleCorners() {
        int[][] corners = {{0, 0}, {7, 0}, {0, 5}, {7, 5}};
        for (int[] at : corners) {
            String name = "corner " + at[0] + ", " + at[1];
            EDGES.is(3, name + " is 1", 1, x -> { x.size(8, 6); return x.toggle(at[0], at[1]); });
            EDGES.is(3, name + " is 0 again", 0, x -> { x.size(8, 6); x.toggle(at[0], at[1]); return x.toggle(at[0], at[1]); });
            EDGES.is(3, name + " alone", 1, x -> { x.size(8, 6); x.toggle(at[0], at[1]); return x.told(4); });
            EDGES.is(3, name + " itself", 1, x -> { x.size(8, 6); x.toggle(at[0], at[1]); return x.cell(at[0], at[1]); });
            EDGES.is(3, name + " of a full GRID is 0", 0, x -> { Edges.full(x, 8, 6); return x.toggle(at[0], at[1]); });
        }
        EDGES.is(3, "the last CELL of the least GRID", 1, x -> { x.size(2, 2); return x.toggle(1, 1); });
        EDGES.is(3, "the last CELL of the greatest GRID", 1, x -> { x.size(16, 16); return x.toggle(15, 15); });
        EDGES.is(3, "CHANGES are full: it is the other one all the same", 1, x -> { Edges.changes(x, 12); return x.toggle(7, 7); });
        EDGES.is(3, "at TIME 9999", 1, x -> { Edges.toTime(x, 9999); return x.toggle(0, 0); });
        EDGES.is(3, "at TIME -9999", 1, x -> { Edges.toTime(x, -9999); return x.toggle(0, 0); });
        EDGES.is(3, "TIME stays", 10000, x -> { x.toggle(0, 0); return x.told(2); });
    }

    /** The object is 4 by 6: x 5 is a row's number, but no column's. */
    private static void toggleNone() {
        for (int n : new int[] {MIN, -1, 4, 5, 16, MAX}) EDGES.leaves(3, "x " + n + " is NONE", NONE, x -> x.toggle(n, 0));
        for (int n : new int[] {MIN, -1, 6, 16, MAX}) EDGES.leaves(3, "y " + n + " is NONE", NONE, x -> x.toggle(0, n));
        EDGES.leaves(3, "x and y just below the least", NONE, x -> x.toggle(-1, -1));
        EDGES.leaves(3, "x and y just above the greatest", NONE, x -> x.toggle(4, 6));
        EDGES.leaves(3, "NONE with full CHANGES takes none away", NONE, x -> Edges.changes(x, 12), x -> x.toggle(8, 0));
        EDGES.leaves(3, "x 16 of the greatest GRID", NONE, x -> x.size(16, 16), x -> x.toggle(16, 0));
        EDGES.leaves(3, "y 16 of the greatest GRID", NONE, x -> x.size(16, 16), x -> x.toggle(0, 16));
        EDGES.leaves(3, "x 2 of the least GRID", NONE, x -> x.size(2, 2), x -> x.toggle(2, 0));
        EDGES.leaves(3, "y 2 of the least GRID", NONE, x -> x.size(2, 2), x -> x.toggle(0, 2));
    }

    private static void undoEnds() {
        int[][] corners = {{0, 0}, {15, 0}, {0, 15}, {15, 15}};
        for (int[] at : corners) {
            String name = "corner " + at[0] + ", " + at[1];
            EDGES.is(4, name + ": 100 x and y", 100 * at[0] + at[1], x -> { x.size(16, 16); x.toggle(at[0], at[1]); return x.undo(); });
            EDGES.is(4, name + " is 0 again", 0, x -> { x.size(16, 16); x.toggle(at[0], at[1]); x.undo(); return x.cell(at[0], at[1]); });
            EDGES.is(4, name + " of a full GRID is 1 again", 256, x -> { Edges.full(x, 16, 16); x.toggle(at[0], at[1]); x.undo(); return x.told(4); });
        }
        for (int n : new int[] {1, 2, 11, 12, 13, 24, 25}) {
            int last = n - 1;
            EDGES.is(4, n + " CHANGES: the latest first", 100 * (last % 8) + last / 8, x -> { Edges.changes(x, n); return x.undo(); });
            EDGES.is(4, n + " CHANGES: what is left when 12 are UNDONE", Math.max(0, n - 12), x -> {
                Edges.changes(x, n);
                for (int i = 0; i < 12; i++) x.undo();
                return x.told(4);
            });
            EDGES.is(4, n + " CHANGES: the thirteenth undo()", STATE, x -> {
                Edges.changes(x, n);
                for (int i = 0; i < 12; i++) x.undo();
                return x.undo();
            });
        }
        EDGES.is(4, "12 CHANGES: the twelfth undo() is of the first", 0, x -> {
            Edges.changes(x, 12);
            for (int i = 0; i < 11; i++) x.undo();
            return x.undo();
        });
        EDGES.is(4, "13 CHANGES: the twelfth undo() is of the second", 100, x -> {
            Edges.changes(x, 13);
            for (int i = 0; i < 11; i++) x.undo();
            return x.undo();
        });
        EDGES.is(4, "full, one UNDONE: a CHANGE more takes none away", 12, x -> { Edges.changes(x, 12); x.undo(); x.toggle(7, 7); return x.told(5); });
        EDGES.is(4, "what is UNDONE is no CHANGE", 0, x -> { x.toggle(3, 3); x.undo(); return x.told(5); });
    }

    private static void undoState() {
        EDGES.leaves(4, "there is none: STATE", STATE, x -> { }, x -> x.undo());
        EDGES.leaves(4, "TIME is one more: STATE", STATE, x -> { Edges.rich(x); x.steps(1); }, x -> x.undo());
        EDGES.leaves(4, "TIME is one less: STATE", STATE, x -> { Edges.rich(x); x.steps(-1); }, x -> x.undo());
        EDGES.leaves(4, "TIME has the other sign: STATE", STATE, x -> { Edges.rich(x); x.steps(6); }, x -> x.undo());
        EDGES.leaves(4, "TIME is two more, the same PHASE: STATE", STATE, x -> { Edges.rich(x); x.steps(2); }, x -> x.undo());
        EDGES.leaves(4, "all are UNDONE: STATE", STATE, x -> { Edges.rich(x); x.undo(); x.undo(); x.undo(); }, x -> x.undo());
        EDGES.leaves(4, "full CHANGES of another TIME: STATE", STATE, x -> { Edges.changes(x, 12); x.steps(1); }, x -> x.undo());
    }

    private static void undoTimes() {
        for (int time : new int[] {-9999, -9998, -1, 9998, 9999}) {
            EDGES.is(4, "at TIME " + time, 707, x -> { Edges.toTime(x, time); x.toggle(7, 7); return x.undo(); });
        }
        EDGES.is(4, "TIME is again as it was, forth and back", 303, x -> { x.toggle(3, 3); x.steps(5); x.steps(-5); return x.undo(); });
        EDGES.is(4, "TIME is again as it was, back and forth", 303, x -> { x.toggle(3, 3); x.steps(-5); x.steps(5); return x.undo(); });
        EDGES.is(4, "refused, then TIME is again as it was", 303, x -> { x.toggle(3, 3); x.steps(1); x.undo(); x.steps(-1); return x.undo(); });
        EDGES.is(4, "the latest is of another TIME, one ahead of it of this", STATE, x -> {
            x.toggle(1, 1);
            x.steps(1);
            x.toggle(2, 2);
            x.steps(-1);
            return x.undo();
        });
        EDGES.is(4, "the one ahead of the latest is of another TIME", STATE, x -> {
            x.toggle(1, 1);
            x.steps(1);
            x.toggle(2, 2);
            x.undo();
            return x.undo();
        });
        EDGES.is(4, "a CHANGE of another TIME is the eldest that goes", STATE, x -> {
            x.toggle(7, 7);
            x.steps(1);
            Edges.changes(x, 12);
            for (int i = 0; i < 12; i++) x.undo();
            x.steps(-1);
            return x.undo();
        });
    }

    private static void undoGone() {
        EDGES.is(4, "size() leaves none", STATE, x -> { x.toggle(0, 0); x.size(8, 8); return x.undo(); });
        EDGES.is(4, "read() leaves none", STATE, x -> { x.toggle(0, 0); Check.read(x, "#./.#"); return x.undo(); });
        EDGES.is(4, "load() leaves none", STATE, x -> { x.toggle(0, 0); x.list(0, 8); x.load(0, 0); return x.undo(); });
        EDGES.is(4, "THE IMAGE laid back leaves none", STATE, x -> { x.toggle(0, 0); x.image(); x.back(); return x.undo(); });
        EDGES.is(4, "12 CHANGES: read() leaves none", 0, x -> { Edges.changes(x, 12); Check.read(x, "#./.#"); return x.told(5); });
        EDGES.is(4, "12 CHANGES: load() leaves none", 0, x -> { Edges.changes(x, 12); x.list(0, 8); x.load(0, 0); return x.told(5); });
        EDGES.is(4, "12 CHANGES: THE IMAGE laid back leaves none", 0, x -> { Edges.changes(x, 12); x.image(); x.back(); return x.told(5); });
    }

    private static void undoStays() {
        EDGES.is(4, "BAD sides leave them", 202, x -> { x.toggle(2, 2); x.size(8, 18); return x.undo(); });
        EDGES.is(4, "a FAULT of kind 1 leaves them", 202, x -> { x.toggle(2, 2); Check.read(x, "../."); return x.undo(); });
        EDGES.is(4, "a FAULT of kind 2 leaves them", 202, x -> { x.toggle(2, 2); Check.read(x, "../../.."); return x.undo(); });
        EDGES.is(4, "a FAULT of the empty TAPE leaves them", 202, x -> { x.toggle(2, 2); x.read(); return x.undo(); });
        EDGES.is(4, "load() of nothing leaves them", 202, x -> { x.toggle(2, 2); x.load(0, 0); return x.undo(); });
        EDGES.is(4, "load() of no LIST leaves them", 202, x -> { x.toggle(2, 2); x.load(4, 0); return x.undo(); });
        EDGES.is(4, "load() of a row too short leaves them", 202, x -> { x.toggle(2, 2); x.list(0, 7); x.load(0, 0); return x.undo(); });
        EDGES.is(4, "THE IMAGE taken leaves them", 202, x -> { x.toggle(2, 2); x.image(); return x.undo(); });
        EDGES.is(4, "back() without an IMAGE leaves them", 202, x -> { x.toggle(2, 2); x.back(); return x.undo(); });
        EDGES.is(4, "another RULE leaves them", 202, x -> { x.toggle(2, 2); x.rule(0); return x.undo(); });
        EDGES.is(4, "0 STEPS leave them", 202, x -> { x.toggle(2, 2); x.steps(0); return x.undo(); });
        EDGES.is(4, "refused STEPS leave them", 202, x -> { x.toggle(2, 2); x.steps(201); return x.undo(); });
    }

    private static void cell() {
        int[][] corners = {{0, 0}, {7, 0}, {0, 5}, {7, 5}};
        for (int[] one : corners) {
            for (int[] at : corners) {
                EDGES.is(5, "corner " + at[0] + ", " + at[1] + " where " + one[0] + ", " + one[1] + " is 1", one == at ? 1 : 0, x -> {
                    x.size(8, 6);
                    x.toggle(one[0], one[1]);
                    return x.cell(at[0], at[1]);
                });
            }
        }
        for (int n : new int[] {MIN, -1, 4, 5, 16, MAX}) EDGES.leaves(5, "x " + n + " is NONE", NONE, x -> x.cell(n, 0));
        for (int n : new int[] {MIN, -1, 6, 16, MAX}) EDGES.leaves(5, "y " + n + " is NONE", NONE, x -> x.cell(0, n));
        EDGES.leaves(5, "x and y just above the greatest", NONE, x -> x.cell(4, 6));
        EDGES.is(5, "x 16 of the greatest GRID", NONE, x -> { Edges.full(x, 16, 16); return x.cell(16, 15); });
        EDGES.is(5, "y 16 of the greatest GRID", NONE, x -> { Edges.full(x, 16, 16); return x.cell(15, 16); });
        EDGES.is(5, "x 2 of the least GRID", NONE, x -> { Edges.full(x, 2, 2); return x.cell(2, 1); });
        EDGES.is(5, "y 2 of the least GRID", NONE, x -> { Edges.full(x, 2, 2); return x.cell(1, 2); });
        EDGES.leaves(5, "what is asked changes nothing", 1, x -> { Edges.rich(x); if (x.cell(0, 0) == 0) x.toggle(0, 0); }, x -> x.cell(0, 0));
    }

    private static void toldEnds() {
        for (int n : new int[] {MIN, -1, 8, MAX}) EDGES.leaves(6, "what " + n + " is NONE", NONE, x -> x.told(n));
        EDGES.leaves(6, "what 0, the least", 4, x -> x.told(0));
        EDGES.leaves(6, "what 1", 6, x -> x.told(1));
        EDGES.leaves(6, "what 2", 9997, x -> x.told(2));
        EDGES.leaves(6, "what 3", 1, x -> x.told(3));
        EDGES.leaves(6, "what 5", 3, x -> x.told(5));
        EDGES.leaves(6, "what 4, all CELLS 1", 4, x -> Edges.full(x, 2, 2), x -> x.told(4));
        EDGES.leaves(6, "what 6, all CELLS 1", 1, x -> Edges.full(x, 2, 2), x -> x.told(6));
        EDGES.leaves(6, "what 7, the greatest, all CELLS 1", 1, x -> Edges.full(x, 2, 2), x -> x.told(7));
    }

    private static void toldTime() {
        int[] times = {-9999, -9998, -2, -1, 0, 1, 2, 9998, 9999};
        int[] phases = {1, 0, 0, 1, 0, 1, 0, 0, 1};
        for (int i = 0; i < times.length; i++) {
            int time = times[i];
            EDGES.is(6, "TIME " + time, 10000 + time, x -> { Edges.toTime(x, time); return x.told(2); });
            EDGES.is(6, "PHASE of TIME " + time, phases[i], x -> { Edges.toTime(x, time); return x.told(3); });
        }
    }

    private static void toldCells() {
        EDGES.is(6, "COUNT of the least GRID, empty", 0, x -> { x.size(2, 2); return x.told(4); });
        EDGES.is(6, "COUNT of the least GRID, full", 4, x -> { Edges.full(x, 2, 2); return x.told(4); });
        EDGES.is(6, "COUNT of the greatest GRID, empty", 0, x -> { x.size(16, 16); return x.told(4); });
        EDGES.is(6, "COUNT of the greatest GRID, full", 256, x -> { Edges.full(x, 16, 16); return x.told(4); });
        EDGES.is(6, "COUNT, all but one", 255, x -> { Edges.full(x, 16, 16); x.toggle(15, 15); return x.told(4); });
        EDGES.is(6, "COUNT, 2 by 16 full", 32, x -> { Edges.full(x, 2, 16); return x.told(4); });
        EDGES.is(6, "COUNT, 16 by 2 full", 32, x -> { Edges.full(x, 16, 2); return x.told(4); });
    }

    private static void toldChanges() {
        for (int n : new int[] {0, 1, 11, 12}) EDGES.is(6, n + " CHANGES", n, x -> { Edges.changes(x, n); return x.told(5); });
        for (int n : new int[] {13, 14, 30}) EDGES.is(6, n + " CHANGES: 12", 12, x -> { Edges.changes(x, n); return x.told(5); });
        EDGES.is(6, "12 CHANGES, another TIME", 0, x -> { Edges.changes(x, 12); x.steps(1); return x.told(5); });
        EDGES.is(6, "12 CHANGES, TIME again as it was", 12, x -> { Edges.changes(x, 12); x.steps(1); x.steps(-1); return x.told(5); });
        EDGES.is(6, "the latest ones of this TIME alone", 1, x -> { Edges.changes(x, 3); x.steps(1); x.toggle(0, 0); return x.told(5); });
        EDGES.is(6, "the latest is of another TIME", 0, x -> { Edges.changes(x, 3); x.steps(1); x.toggle(0, 0); x.steps(-1); return x.told(5); });
        EDGES.is(6, "those of this TIME behind others of this TIME", 2, x -> {
            Edges.changes(x, 3);
            x.steps(1);
            x.toggle(0, 0);
            x.steps(-1);
            Edges.changes(x, 2);
            return x.told(5);
        });
        EDGES.is(6, "the eldest of another TIME is taken away", 11, x -> {
            Edges.changes(x, 12);
            x.steps(1);
            x.toggle(0, 0);
            x.undo();
            x.steps(-1);
            return x.told(5);
        });
        EDGES.is(6, "CHANGES at TIME 9999", 2, x -> { Edges.toTime(x, 9999); Edges.changes(x, 2); return x.told(5); });
        EDGES.is(6, "CHANGES at TIME -9999", 2, x -> { Edges.toTime(x, -9999); Edges.changes(x, 2); return x.told(5); });
    }

    private static void toldThings() {
        EDGES.is(6, "THINGS, all CELLS 0", 0, x -> { x.size(16, 16); return x.told(6); });
        EDGES.is(6, "SHAPES, all CELLS 0", 0, x -> { x.size(16, 16); return x.told(7); });
        EDGES.is(6, "THINGS, all CELLS 1", 1, x -> { Edges.full(x, 16, 16); return x.told(6); });
        EDGES.is(6, "SHAPES, all CELLS 1", 1, x -> { Edges.full(x, 16, 16); return x.told(7); });
        EDGES.is(6, "THINGS, as many as can be", 64, x -> { Edges.apart(x); return x.told(6); });
        EDGES.is(6, "SHAPES, as many THINGS as can be, all alike", 1, x -> { Edges.apart(x); return x.told(7); });
        EDGES.is(6, "THINGS, four corners are one", 1, x -> { Check.read(x, "#..#/..../..../#..#"); return x.told(6); });
    }
}
