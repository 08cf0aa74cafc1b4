/** Promises 12 to 17: what is in thought only. */
public final class ThoughtTest {
    private static final Check CHECK = new Check();

    public static void main(String[] args) {
        then();
        sum();
        kept();
        again();
        moved();
        movedLeast();
        unlike();
        nothingChanges();
        CHECK.end();
    }

    private static void due(int promise, String what, long got, long want) {
        CHECK.due(promise, what, got, want);
    }

    private static void then() {
        BlockCells x = Check.of("#.../..../..../....");
        due(12, "now", x.then(0, 0, 0), 1);
        due(12, "one STEP", x.then(1, 1, 1), 1);
        due(12, "one STEP", x.then(0, 0, 1), 0);
        due(12, "two STEPS", x.then(2, 2, 2), 1);
        due(12, "one BACK", x.then(3, 3, -1), 1);
        due(12, "two BACK", x.then(2, 2, -2), 1);
        due(12, "60", x.then(0, 0, 60), 1);
        due(12, "-60", x.then(0, 0, -60), 1);
        due(12, "61", x.then(0, 0, 61), BlockCells.BAD);
        due(12, "-61", x.then(0, 0, -61), BlockCells.BAD);
        due(12, "far", x.then(0, 0, Integer.MIN_VALUE), BlockCells.BAD);
        due(12, "x above", x.then(4, 0, 0), BlockCells.NONE);
        due(12, "y above", x.then(0, 4, 0), BlockCells.NONE);
        due(12, "x below", x.then(-1, 0, 0), BlockCells.NONE);
        due(12, "y below", x.then(0, -1, 0), BlockCells.NONE);
        due(12, "NONE ahead of BAD", x.then(4, 0, 99), BlockCells.NONE);
        x.steps(1);
        due(12, "from PHASE 1", x.then(2, 2, 1), 1);
        due(12, "back from PHASE 1", x.then(0, 0, -1), 1);
    }

    private static void sum() {
        BlockCells x = Check.of("#.../##../.###/....");
        due(13, "x, y even", x.sum(1, 0, 0, 0), 1000002);
        due(13, "x odd, y even", x.sum(0, 1, 0, 0), 1000002);
        due(13, "x even, y odd", x.sum(0, 0, 1, 0), 1000001);
        due(13, "both odd", x.sum(0, 0, 0, 1), 1000001);
        due(13, "all", x.sum(-9, 9, -9, -9), 999964 + 18);
        due(13, "a above", x.sum(10, 0, 0, 0), BlockCells.BAD);
        due(13, "b below", x.sum(0, -10, 0, 0), BlockCells.BAD);
        due(13, "c above", x.sum(0, 0, 10, 0), BlockCells.BAD);
        due(13, "d below", x.sum(0, 0, 0, -10), BlockCells.BAD);
        BlockCells full = new BlockCells();
        full.size(16, 16);
        full.rule(3);
        full.steps(1);
        due(13, "the least", full.sum(-9, -9, -9, -9), 1000000 - 9 * 256);
        due(13, "the most", full.sum(9, 9, 9, 9), 1000000 + 9 * 256);
    }

    private static void kept() {
        BlockCells x = new BlockCells();
        due(14, "ball keeps COUNT", x.kept(9, 9, 9, 9), 1);
        due(14, "ball: a CELL to the opposite corner", x.kept(1, 0, 0, -1), 0);
        due(14, "ball: two CELLS to the others", x.kept(1, 2, 2, 1), 0);
        x.change(6, 9);
        due(14, "without the two", x.kept(1, 2, 2, 1), 1);
        due(14, "without the two", x.kept(3, -7, -7, 3), 1);
        due(14, "a is not d", x.kept(3, -7, -7, 4), 0);
        x.rule(0);
        due(14, "same keeps all", x.kept(-9, 3, 7, 1), 1);
        x.rule(3);
        due(14, "flip keeps 0", x.kept(0, 0, 0, 0), 1);
        due(14, "flip: not even 1, -1", x.kept(1, -1, -1, 1), 0);
        x.rule(0);
        x.change(3, 4);
        // Upper two, or lower left alone: by the weights 1, 2, 3, 4 both are 3, by PHASE 1 7 and 2.
        due(14, "PHASE 1, too", x.kept(1, 2, 3, 4), 0);
        due(14, "both PHASES", x.kept(1, 1, 2, 1), 0);
        due(14, "both PHASES", x.kept(1, 0, 1, 1), 0);
        due(14, "both PHASES", x.kept(2, 0, 2, 0), 0);
        due(14, "both PHASES", x.kept(0, 2, 2, 2), 0);
        due(14, "both PHASES", x.kept(-2, 3, 1, 0), 0);
        due(14, "by PHASE 1 other ones than by PHASE 0", x.kept(5, 0, 5, -5), 1);
        x.rule(0);
        x.change(1, 2);
        due(14, "a is b, d is c", x.kept(4, 4, 9, 9), 1);
        due(14, "a is b alone", x.kept(4, 4, 9, 8), 0);
        due(14, "a is not b", x.kept(4, 5, 9, 9), 0);
        due(14, "a", x.kept(-10, 0, 0, 0), BlockCells.BAD);
        due(14, "b", x.kept(0, 10, 0, 0), BlockCells.BAD);
        due(14, "c", x.kept(0, 0, -10, 0), BlockCells.BAD);
        due(14, "d", x.kept(0, 0, 0, 10), BlockCells.BAD);
    }

    private static void again() {
        BlockCells x = Check.of("#.../..../..../....");
        due(15, "once round", x.again(), 4);
        x.rule(1);
        due(15, "turn", x.again(), 4);
        x.rule(3);
        due(15, "flip", x.again(), 2);
        x.rule(0);
        due(15, "same", x.again(), 2);
        BlockCells wide = Check.of("#.............../................");
        due(15, "16 wide", wide.again(), 16);
        due(15, "128", round128().again(), 128);
        BlockCells late = round130();
        due(15, "beyond 128", late.again(), -5);
        late.steps(2);
        due(15, "beyond 128", late.again(), -5);
        late.steps(128);
        CHECK.grid(15, "it came again behind 130", late, "....../..#.../....../...#..");
    }

    private static BlockCells round128() {
        BlockCells x = Check.of("............../............../............../............../............../"
            + "#............./............../............#.");
        x.rule(2);
        x.change(5, 1);
        x.change(6, 7);
        return x;
    }

    private static BlockCells round130() {
        BlockCells x = Check.of("....../..#.../....../...#..");
        x.change(0, 12);
        return x;
    }

    private static void moved() {
        BlockCells x = Check.of("#......./......../......../......../......../......../......../........");
        due(16, "n", x.moved(0), 2);
        due(16, "dx", x.moved(1), 2);
        due(16, "dy", x.moved(2), 2);
        due(16, "below", x.moved(-1), BlockCells.NONE);
        due(16, "above", x.moved(3), BlockCells.NONE);
        BlockCells late = Check.of("....#......./............/...#..#...../......#.....");
        due(16, "behind 64", late.moved(0), 64);
        due(16, "behind 64", late.moved(1), 8);
        due(16, "behind 64", late.moved(2), 0);
        BlockCells later = Check.of("..........#.../..........#.../.#............/............../............../...#..........");
        due(16, "behind 66", later.moved(0), -5);
        due(16, "behind 66", later.moved(1), -5);
        later.steps(2);
        due(16, "behind 66", later.moved(2), -5);
        BlockCells left = Check.of("......../.#....../......../........");
        due(16, "the other way, n", left.moved(0), 2);
        due(16, "the other way, dx", left.moved(1), 6);
        due(16, "the other way, dy", left.moved(2), 2);
        BlockCells tiny = new BlockCells();
        tiny.size(2, 2);
        due(16, "no shift but 0", tiny.moved(0), -5);
        due(16, "no shift but 0", tiny.moved(1), -5);
        due(16, "no shift but 0", tiny.moved(2), -5);
        due(16, "NONE all the same", tiny.moved(3), BlockCells.NONE);
        BlockCells still = Check.of("##../##../..../....");
        still.rule(0);
        due(16, "stays", still.moved(0), -5);
    }

    private static void movedLeast() {
        BlockCells x = new BlockCells();
        due(16, "all 0: dx 2", x.moved(1), 2);
        due(16, "all 0: dy 0", x.moved(2), 0);
        x.size(2, 8);
        due(16, "one BLOCK wide: dx 0", x.moved(1), 0);
        due(16, "one BLOCK wide: dy 2", x.moved(2), 2);
        BlockCells rows = Check.of("#.../..../#.../....");
        rows.rule(0);
        due(16, "rows alike: n", rows.moved(0), 2);
        due(16, "rows alike: dx", rows.moved(1), 0);
        due(16, "rows alike: dy", rows.moved(2), 2);
        BlockCells both = Check.of("#.#./..../#.#./....");
        both.rule(0);
        due(16, "the least dy first", both.moved(1), 2);
        due(16, "the least dy first", both.moved(2), 0);
        BlockCells pair = Check.of("#.......#......./................/................/................");
        due(16, "two balls: n", pair.moved(0), 2);
        due(16, "two balls: dx", pair.moved(1), 2);
        due(16, "two balls: dy", pair.moved(2), 2);
    }

    private static void unlike() {
        BlockCells x = Check.of("#.../..../..../....");
        due(17, "now alone", x.unlike(0), 1);
        due(17, "one", x.unlike(1), 2);
        due(17, "two", x.unlike(2), 3);
        due(17, "all", x.unlike(3), 4);
        due(17, "again", x.unlike(4), 4);
        due(17, "64", x.unlike(64), 4);
        x.rule(0);
        due(17, "same", x.unlike(64), 1);
        x.rule(3);
        due(17, "flip", x.unlike(64), 2);
        due(17, "above", x.unlike(65), BlockCells.BAD);
        due(17, "below", x.unlike(-1), BlockCells.BAD);
        // Alike at TIME 1 and at TIME 2: CELLS alone count.
        BlockCells odd = Check.of("..../.##./.##./....");
        due(17, "CELLS alone", odd.unlike(64), 2);
        due(17, "most", round128().unlike(64), 65);
        due(17, "most but one", round128().unlike(63), 64);
    }

    private static void nothingChanges() {
        BlockCells x = Check.of("#.#./.#../...#/....");
        x.toggle(3, 3);
        String before = Check.spelled(x);
        x.then(0, 0, 9);
        x.sum(1, 2, 3, 4);
        x.kept(1, 2, 3, 4);
        x.again();
        x.moved(0);
        x.unlike(33);
        CHECK.grid(15, "what is asked", x, before);
        due(15, "TIME", x.told(2), 10000);
        due(15, "the RULE", x.rule(4), 0);
        due(15, "CHANGES", x.told(5), 1);
        BlockCells late = Check.of("#.../..../..../....");
        for (int i = 1; i < 50; i++) late.steps(200);
        late.steps(199);
        due(15, "beyond TIME 9999", late.again(), 4);
        due(17, "beyond TIME 9999", late.unlike(64), 4);
        due(16, "beyond TIME 9999", late.moved(0), 2);
    }
}
