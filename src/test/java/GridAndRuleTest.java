/** Promises 1 to 11: the grid, rules, steps. */
public final class GridAndRuleTest {
    private static final Check CHECK = new Check();

    public static void main(String[] args) {
        newObject();
        size();
        toggle();
        undo();
        undoTimes();
        undoGone();
        cell();
        told();
        rule();
        change();
        becomes();
        steps();
        stepsOnOddBlocks();
        block();
        CHECK.end();
    }

    private static void due(int promise, String what, long got, long want) {
        CHECK.due(promise, what, got, want);
    }

    private static void newObject() {
        BlockCells x = new BlockCells();
        due(1, "W", x.told(0), 8);
        due(1, "H", x.told(1), 8);
        due(1, "TIME", x.told(2), 10000);
        CHECK.grid(1, "new", x, "......../......../......../......../......../......../......../........");
        due(1, "the RULE is ball", x.rule(4), 0);
        due(1, "no CHANGE", x.told(5), 0);
        due(1, "no SEEN", x.count(0), 0);
        due(1, "no EVENTS", x.count(1), 0);
        due(1, "THE TAPE", x.count(2), 0);
        due(1, "THE IMAGE", x.back(), BlockCells.STATE);
        for (int list = 0; list < 4; list++) due(1, "LIST", x.set(list, 0, 1), -11);
        BlockCells paper = new BlockCells();
        due(1, "THE PAPER", paper.count(3), 0);
    }

    private static void size() {
        BlockCells x = new BlockCells();
        x.rule(1);
        x.toggle(1, 1);
        x.steps(3);
        x.toggle(2, 2);
        due(2, "as it was", x.size(2, 16), 808);
        due(2, "as it was", x.size(16, 2), 216);
        due(2, "W", x.told(0), 16);
        due(2, "H", x.told(1), 2);
        due(2, "TIME 0", x.told(2), 10000);
        due(2, "all CELLS 0", x.told(4), 0);
        due(2, "no CHANGE is left", x.told(5), 0);
        due(2, "nothing to undo", x.undo(), BlockCells.STATE);
        due(2, "the RULE stays", x.becomes(1, false), 2);
        x.toggle(3, 1);
        x.size(16, 2);
        due(2, "no CHANGE of this TIME is left", x.told(5), 0);
        due(2, "nothing to undo", x.undo(), BlockCells.STATE);
        x.toggle(15, 1);
        int[][] bad = {{0, 2}, {2, 0}, {3, 2}, {2, 3}, {18, 2}, {2, 18}, {-2, 2}, {2, -2}, {17, 16}, {1, 1}};
        for (int[] pair : bad) due(2, "BAD size", x.size(pair[0], pair[1]), BlockCells.BAD);
        due(2, "BAD at the ends", x.size(Integer.MIN_VALUE, Integer.MAX_VALUE), BlockCells.BAD);
        due(2, "BAD changes nothing", x.cell(15, 1), 1);
        due(2, "BAD leaves CHANGES", x.told(5), 1);
        due(2, "greatest", x.size(16, 16), 1602);
        due(2, "greatest", x.size(2, 2), 1616);
    }

    private static void toggle() {
        BlockCells x = new BlockCells();
        due(3, "to 1", x.toggle(7, 0), 1);
        due(3, "is 1", x.cell(7, 0), 1);
        due(3, "the mirrored one is 0", x.cell(0, 7), 0);
        due(3, "to 0", x.toggle(7, 0), 0);
        due(3, "is 0", x.cell(7, 0), 0);
        due(3, "x too large", x.toggle(8, 0), BlockCells.NONE);
        due(3, "y too large", x.toggle(0, 8), BlockCells.NONE);
        due(3, "x below 0", x.toggle(-1, 0), BlockCells.NONE);
        due(3, "y below 0", x.toggle(0, -1), BlockCells.NONE);
        due(3, "far", x.toggle(Integer.MIN_VALUE, Integer.MAX_VALUE), BlockCells.NONE);
        due(3, "NONE is no CHANGE", x.told(5), 2);
        due(3, "NONE changes no CELL", x.told(4), 0);
    }

    private static void undo() {
        BlockCells x = new BlockCells();
        due(4, "none", x.undo(), BlockCells.STATE);
        for (int i = 0; i < 13; i++) x.toggle(i % 8, i / 8);
        due(4, "12 at most", x.told(5), 12);
        for (int i = 12; i > 0; i--) due(4, "the latest first", x.undo(), 100 * (i % 8) + i / 8);
        due(4, "the eldest is away", x.undo(), BlockCells.STATE);
        due(4, "the eldest stays", x.cell(0, 0), 1);
        due(4, "the others don't", x.told(4), 1);
        x.toggle(0, 0);
        due(4, "undone to 1", x.undo(), 0);
        due(4, "undone to 1", x.cell(0, 0), 1);
        x.toggle(5, 6);
        x.toggle(5, 6);
        due(4, "the same CELL twice", x.undo(), 506);
        due(4, "the same CELL twice", x.cell(5, 6), 1);
    }

    private static void undoTimes() {
        BlockCells x = new BlockCells();
        x.rule(0);
        x.toggle(1, 1);
        x.steps(1);
        due(4, "another TIME", x.undo(), BlockCells.STATE);
        due(4, "none can be UNDONE", x.told(5), 0);
        due(4, "refused: no change", x.cell(1, 1), 1);
        x.toggle(2, 2);
        x.toggle(3, 3);
        due(6, "those of this TIME", x.told(5), 2);
        x.steps(-1);
        due(4, "the latest is of another TIME", x.undo(), BlockCells.STATE);
        x.toggle(4, 4);
        due(6, "only the latest ones count", x.told(5), 1);
        due(4, "TIME as it was", x.undo(), 404);
        due(4, "ahead of it another TIME", x.undo(), BlockCells.STATE);
        x.steps(1);
        due(4, "TIME is again", x.undo(), 303);
        due(4, "TIME is again", x.undo(), 202);
        due(4, "no longer", x.undo(), BlockCells.STATE);
        x.steps(-1);
        due(4, "the first one", x.undo(), 101);
        due(4, "all are undone", x.told(4), 0);
    }

    private static void undoGone() {
        BlockCells x = new BlockCells();
        x.toggle(0, 0);
        Check.read(x, "../..");
        due(4, "read() leaves none", x.undo(), BlockCells.STATE);
        x.toggle(0, 0);
        Check.read(x, "../.");
        due(4, "a FAULT leaves them", x.told(5), 1);
        Check.read(x, "..");
        due(4, "a FAULT of kind 2 leaves them", x.told(5), 1);
        x.list(0, 2);
        x.load(0, 1);
        due(4, "a refused load() leaves them", x.told(5), 1);
        x.load(0, 0);
        due(4, "load() leaves none", x.told(5), 0);
        x.toggle(0, 0);
        x.image();
        due(4, "taking THE IMAGE leaves them", x.told(5), 1);
        x.back();
        due(4, "back() leaves none", x.told(5), 0);
    }

    private static void cell() {
        BlockCells x = Check.of("...#/..../#.../.#../..../....");
        String[] rows = {"...#", "....", "#...", ".#..", "....", "...."};
        for (int row = 0; row < 6; row++) {
            for (int column = 0; column < 4; column++) {
                due(5, "cell " + column + ", " + row, x.cell(column, row), rows[row].charAt(column) == '#' ? 1 : 0);
            }
        }
        due(5, "x is W", x.cell(4, 0), BlockCells.NONE);
        due(5, "y is H", x.cell(0, 6), BlockCells.NONE);
        due(5, "x below 0", x.cell(-1, 0), BlockCells.NONE);
        due(5, "y below 0", x.cell(0, -1), BlockCells.NONE);
        due(5, "far", x.cell(Integer.MAX_VALUE, Integer.MIN_VALUE), BlockCells.NONE);
    }

    private static void told() {
        BlockCells x = Check.of("#...../..#.../....../......");
        x.rule(0);
        due(6, "W", x.told(0), 6);
        due(6, "H", x.told(1), 4);
        x.steps(-1);
        due(6, "TIME", x.told(2), 9999);
        due(6, "an odd TIME below 0", x.told(3), 1);
        x.steps(-1);
        due(6, "an even TIME below 0", x.told(3), 0);
        x.steps(3);
        due(6, "PHASE 1", x.told(3), 1);
        due(6, "TIME", x.told(2), 10001);
        due(6, "COUNT", x.told(4), 2);
        x.toggle(1, 0);
        due(6, "CHANGES", x.told(5), 1);
        due(6, "THINGS", x.told(6), 1);
        due(6, "SHAPES", x.told(7), 1);
        x.undo();
        due(6, "THINGS", x.told(6), 2);
        due(6, "SHAPES", x.told(7), 1);
        due(6, "below", x.told(-1), BlockCells.NONE);
        due(6, "above", x.told(8), BlockCells.NONE);
    }

    private static void rule() {
        BlockCells x = new BlockCells();
        int[][] words = {
            {0, 1, 2, 3, 4, 5, 6, 7, 8, 9, 10, 11, 12, 13, 14, 15},
            {0, 2, 8, 10, 1, 3, 9, 11, 4, 6, 12, 14, 5, 7, 13, 15},
            {0, 4, 1, 5, 8, 12, 9, 13, 2, 6, 3, 7, 10, 14, 11, 15},
            {15, 14, 13, 12, 11, 10, 9, 8, 7, 6, 5, 4, 3, 2, 1, 0},
            {0, 8, 4, 3, 2, 5, 9, 7, 1, 6, 10, 11, 12, 13, 14, 15},
        };
        for (int word = 0; word < 5; word++) {
            due(7, "another RULE", x.rule(word), 1);
            due(7, "the same RULE", x.rule(word), 0);
            for (int state = 0; state < 16; state++) {
                due(7, "word " + word + " of " + state, x.becomes(state, false), words[word][state]);
                due(7, "word " + word + " back to " + state, x.becomes(words[word][state], true), state);
            }
        }
        due(7, "below", x.rule(-1), BlockCells.NONE);
        due(7, "above", x.rule(5), BlockCells.NONE);
        due(7, "NONE changes nothing", x.rule(4), 0);
        x.change(7, 11);
        due(7, "changed by change()", x.rule(4), 1);
    }

    private static void change() {
        BlockCells x = new BlockCells();
        due(8, "what i becomes now", x.change(1, 2), 4);
        due(8, "i", x.becomes(1, false), 4);
        due(8, "j", x.becomes(2, false), 8);
        due(8, "i back", x.becomes(4, true), 1);
        due(8, "j back", x.becomes(8, true), 2);
        due(8, "others stay", x.becomes(6, false), 9);
        due(8, "exchanged back", x.change(2, 1), 4);
        due(8, "as before", x.rule(4), 0);
        due(8, "the ends", x.change(0, 15), 15);
        due(8, "the same", x.change(3, 3), BlockCells.NONE);
        due(8, "i above", x.change(16, 0), BlockCells.NONE);
        due(8, "j above", x.change(0, 16), BlockCells.NONE);
        due(8, "i below", x.change(-1, 0), BlockCells.NONE);
        due(8, "j below", x.change(0, -1), BlockCells.NONE);
        due(8, "NONE changes nothing", x.becomes(0, false), 15);
    }

    private static void becomes() {
        BlockCells x = new BlockCells();
        x.rule(1);
        due(9, "turn", x.becomes(4, false), 1);
        due(9, "turn", x.becomes(4, true), 8);
        due(9, "above", x.becomes(16, false), BlockCells.NONE);
        due(9, "above", x.becomes(16, true), BlockCells.NONE);
        due(9, "below", x.becomes(-1, false), BlockCells.NONE);
        due(9, "below", x.becomes(-1, true), BlockCells.NONE);
    }

    private static void steps() {
        BlockCells x = Check.of("#.../..../..../....");
        x.rule(1);
        due(10, "none", x.steps(0), 10000);
        due(10, "one", x.steps(1), 10001);
        CHECK.grid(10, "upper left to upper right", x, ".#../..../..../....");
        due(10, "PHASE 1", x.steps(1), 10002);
        CHECK.grid(10, "lower left to upper left, closed round", x, "..../..../..../.#..");
        due(10, "back", x.steps(-2), 10000);
        CHECK.grid(10, "back exactly", x, "#.../..../..../....");
        due(10, "back below 0", x.steps(-1), 9999);
        CHECK.grid(10, "lower right from upper right", x, "..../..../..../#...");
        due(10, "forward again", x.steps(1), 10000);
        CHECK.grid(10, "as it was", x, "#.../..../..../....");
        due(10, "too many", x.steps(201), BlockCells.BAD);
        due(10, "too many back", x.steps(-201), BlockCells.BAD);
        due(10, "far", x.steps(Integer.MIN_VALUE), BlockCells.BAD);
        for (int i = 1; i < 50; i++) x.steps(200);
        due(10, "to 9998", x.steps(198), 19998);
        due(10, "beyond", x.steps(2), BlockCells.STATE);
        due(10, "STATE changes nothing", x.told(2), 19998);
        due(10, "BAD ahead of STATE", x.steps(201), BlockCells.BAD);
        due(10, "to 9999", x.steps(1), 19999);
        due(10, "beyond", x.steps(1), BlockCells.STATE);
        due(10, "still none", x.steps(0), 19999);
        x.size(4, 4);
        for (int i = 1; i < 50; i++) x.steps(-200);
        due(10, "to -9999", x.steps(-199), 1);
        due(10, "beyond", x.steps(-1), BlockCells.STATE);
        due(10, "then() may be beyond", x.then(0, 0, -60), 0);
    }

    private static void stepsOnOddBlocks() {
        BlockCells x = Check.of("#./..");
        x.rule(0);
        x.steps(1);
        x.rule(1);
        x.steps(1);
        // By PHASE 1 its only BLOCK has cell 1, 1 upper left; 0, 0 is lower right.
        CHECK.grid(10, "2 by 2, lower right to lower left", x, ".#/..");
        BlockCells y = Check.of("#.#./..../..../...#");
        y.steps(1);
        CHECK.grid(10, "ball", y, "..../.#.#/..#./....");
        y.steps(1);
        CHECK.grid(10, "ball by PHASE 1", y, "..../..#./##../....");
        y.rule(3);
        y.steps(1);
        CHECK.grid(10, "flip", y, "####/##.#/..##/####");
    }

    private static void block() {
        BlockCells x = Check.of("#..#/.#../...#/#..#");
        due(11, "PHASE 0", x.block(0, 0), 9);
        due(11, "PHASE 0", x.block(1, 1), 9);
        due(11, "PHASE 0", x.block(3, 0), 2);
        due(11, "PHASE 0", x.block(0, 3), 4);
        due(11, "PHASE 0", x.block(2, 2), 10);
        x.rule(0);
        x.steps(1);
        due(11, "PHASE 1", x.block(1, 1), 1);
        due(11, "PHASE 1", x.block(2, 2), 1);
        due(11, "closed round", x.block(0, 0), 15);
        due(11, "closed round", x.block(3, 3), 15);
        due(11, "closed round", x.block(3, 0), 15);
        due(11, "closed round in x", x.block(0, 1), 4);
        due(11, "closed round in y", x.block(2, 0), 0);
        x.steps(-2);
        due(11, "PHASE 1 below 0", x.block(0, 0), 15);
        due(11, "x above", x.block(4, 0), BlockCells.NONE);
        due(11, "y above", x.block(0, 4), BlockCells.NONE);
        due(11, "x below", x.block(-1, 0), BlockCells.NONE);
        due(11, "y below", x.block(0, -1), BlockCells.NONE);
    }
}
