/** Promises 18 to 20: things and their shapes. */
public final class ThingsTest {
    private static final Check CHECK = new Check();

    public static void main(String[] args) {
        things();
        joinedRound();
        thingAt();
        shapes();
        shapesByFirstCell();
        mostThings();
        wrongNumbers();
        CHECK.end();
    }

    private static void due(int promise, String what, long got, long want) {
        CHECK.due(promise, what, got, want);
    }

    private static void thing(String what, BlockCells x, int k, int cells, int first, int shape) {
        due(18, what + ", CELLS of " + k, x.thing(k, 0), cells);
        due(18, what + ", first CELL of " + k, x.thing(k, 1), first);
        due(18, what + ", SHAPE of " + k, x.thing(k, 2), shape);
    }

    private static void shape(String what, BlockCells x, int k, int things, int cells, int first) {
        due(20, what + ", THINGS of " + k, x.shape(k, 0), things);
        due(20, what + ", CELLS of " + k, x.shape(k, 1), cells);
        due(20, what + ", first CELL of " + k, x.shape(k, 2), first);
    }

    private static void things() {
        BlockCells x = Check.of("........../.#.....##./..#......./.......##./.#....#.../......#.../........../..........");
        due(6, "THINGS", x.told(6), 4);
        thing("by first CELLS", x, 0, 2, 101, 0);
        thing("by first CELLS", x, 1, 2, 701, 1);
        thing("joined by a corner", x, 2, 4, 703, 2);
        thing("one alone", x, 3, 1, 104, 3);
        due(18, "k is the number of THINGS", x.thing(4, 0), BlockCells.NONE);
    }

    private static void joinedRound() {
        BlockCells corners = Check.of("#..#/..../..../#..#");
        due(6, "four corners are one THING", corners.told(6), 1);
        thing("four corners", corners, 0, 4, 0, 0);
        BlockCells slope = Check.of("...#../....../....../....../....../..#...");
        thing("round by a corner", slope, 0, 2, 300, 0);
        BlockCells sides = Check.of("....../#....#/....../......");
        thing("round in x", sides, 0, 2, 1, 0);
        BlockCells ring = Check.of("....../######/....../......");
        thing("a ring", ring, 0, 6, 1, 0);
        BlockCells full = Check.of("##/##");
        thing("full", full, 0, 4, 0, 0);
        // Joined by a cell that is seen after both ends.
        BlockCells fork = Check.of("#...#./.#.#../..#.../......");
        thing("late joined", fork, 0, 5, 0, 0);
        due(6, "late joined", fork.told(6), 1);
    }

    private static void thingAt() {
        BlockCells x = Check.of("#.....#./......../..##..../...#..../......../........");
        due(19, "the first", x.thingAt(0, 0), 0);
        due(19, "the second", x.thingAt(6, 0), 1);
        due(19, "the third", x.thingAt(2, 2), 2);
        due(19, "the third", x.thingAt(3, 3), 2);
        due(19, "0", x.thingAt(2, 3), -5);
        due(19, "x above", x.thingAt(8, 0), BlockCells.NONE);
        due(19, "y above", x.thingAt(0, 6), BlockCells.NONE);
        due(19, "x below", x.thingAt(-1, 0), BlockCells.NONE);
        due(19, "y below", x.thingAt(0, -1), BlockCells.NONE);
        x.toggle(7, 0);
        due(19, "joined now", x.thingAt(6, 0), 0);
        due(19, "one number less", x.thingAt(2, 2), 1);
    }

    private static void shapes() {
        BlockCells x = Check.of("##..#.../......../#...##../......../.#..#.../.#....../......../........");
        due(6, "THINGS", x.told(6), 6);
        due(6, "SHAPES", x.told(7), 3);
        due(6, "SHAPES once more", x.told(7), 3);
        shape("two beside", x, 0, 2, 2, 0);
        shape("one", x, 1, 3, 1, 400);
        shape("two below", x, 2, 1, 2, 104);
        thing("alike", x, 3, 2, 402, 0);
        thing("other", x, 4, 2, 104, 2);
        BlockCells turned = Check.of("##....../#......./......../....##../.....#../......../......../........");
        due(6, "a turned one is another SHAPE", turned.told(7), 2);
        BlockCells none = new BlockCells();
        due(6, "none", none.told(7), 0);
        due(20, "none", none.shape(0, 0), BlockCells.NONE);
    }

    private static void shapesByFirstCell() {
        // Both are three in a row; of the one that goes round, its first CELL is not its left one.
        BlockCells x = Check.of("##.....#/......../..###.../........");
        due(6, "two THINGS", x.told(6), 2);
        due(6, "offsets from the first CELL, modulo W", x.told(7), 2);
        thing("the one that goes round", x, 0, 3, 0, 0);
        thing("the other", x, 1, 3, 202, 1);
        // Round in y alike: offsets 0 and H - 1, but 0 and 1 for the other.
        BlockCells y = Check.of("#...../....../...#../...#../....../#.....");
        due(6, "modulo H", y.told(7), 2);
        // A ring's offsets are the same from each of its CELLS.
        BlockCells rings = Check.of("####/..../####/....");
        due(6, "rings are alike", rings.told(7), 1);
        shape("rings", rings, 0, 2, 4, 0);
        // Two that go round in the same way.
        BlockCells both = Check.of("#......#/......../#......#/........");
        due(6, "both round", both.told(7), 1);
        BlockCells round = Check.of("..#...../.#....../......../.......#/......#./........");
        due(6, "first CELL right above", round.told(7), 1);
    }

    private static void mostThings() {
        BlockCells x = new BlockCells();
        x.size(16, 16);
        for (int y = 0; y < 16; y += 2) {
            for (int column = 0; column < 16; column += 2) x.toggle(column, y);
        }
        due(6, "most THINGS", x.told(6), 64);
        due(6, "all alike", x.told(7), 1);
        thing("the last", x, 63, 1, 1414, 0);
        due(19, "the last", x.thingAt(14, 14), 63);
        due(18, "beyond", x.thing(64, 0), BlockCells.NONE);
        shape("all", x, 0, 64, 1, 0);
        x.rule(3);
        x.steps(1);
        due(6, "all but those are one THING", x.told(6), 1);
        thing("all but those", x, 0, 192, 100, 0);
    }

    private static void wrongNumbers() {
        BlockCells x = Check.of("#.../..../..../....");
        due(18, "k below", x.thing(-1, 0), BlockCells.NONE);
        due(18, "k above", x.thing(1, 0), BlockCells.NONE);
        due(18, "what below", x.thing(0, -1), BlockCells.NONE);
        due(18, "what above", x.thing(0, 3), BlockCells.NONE);
        due(20, "k below", x.shape(-1, 0), BlockCells.NONE);
        due(20, "k above", x.shape(1, 0), BlockCells.NONE);
        due(20, "what below", x.shape(0, -1), BlockCells.NONE);
        due(20, "what above", x.shape(0, 3), BlockCells.NONE);
        due(18, "far", x.thing(Integer.MAX_VALUE, Integer.MIN_VALUE), BlockCells.NONE);
        due(20, "far", x.shape(Integer.MIN_VALUE, Integer.MAX_VALUE), BlockCells.NONE);
    }
}
