/** Promises 31 to 37: seen, events, the image, counts. */
public final class SeenTest {
    private static final Check CHECK = new Check();

    public static void main(String[] args) {
        see();
        fits();
        fitsTimes();
        event();
        after();
        afterOrder();
        image();
        imageHolds();
        count();
        CHECK.end();
    }

    private static void due(int promise, String what, long got, long want) {
        CHECK.due(promise, what, got, want);
    }

    private static void see() {
        BlockCells x = new BlockCells();
        due(31, "n above", x.see(13, 0, 0), BlockCells.BAD);
        due(31, "n below", x.see(-13, 0, 0), BlockCells.BAD);
        due(31, "cell below", x.see(0, -1, 0), BlockCells.BAD);
        due(31, "cell above", x.see(0, 1516, 0), BlockCells.BAD);
        due(31, "column 16", x.see(0, 1600, 0), BlockCells.BAD);
        due(31, "row 16", x.see(0, 16, 0), BlockCells.BAD);
        due(31, "row 99", x.see(0, 1499, 0), BlockCells.BAD);
        due(31, "v above", x.see(0, 0, 2), BlockCells.BAD);
        due(31, "v below", x.see(0, 0, -2), BlockCells.BAD);
        due(31, "far", x.see(Integer.MIN_VALUE, Integer.MAX_VALUE, 0), BlockCells.BAD);
        due(31, "BAD adds none", x.count(0), 0);
        due(31, "n -12", x.see(-12, 0, 0), 1);
        due(31, "n 12", x.see(12, 1515, 0), 2);
        due(31, "row 15", x.see(0, 15, 1), 3);
        due(31, "column 15", x.see(0, 1500, 1), 4);
        due(31, "the fifth", x.see(0, 0, 1), 5);
        due(31, "the sixth", x.see(0, 0, 1), BlockCells.FULL);
        due(31, "BAD ahead of FULL", x.see(13, 0, 1), BlockCells.BAD);
        due(31, "none then", x.see(99, -99, -1), 0);
        due(31, "none", x.count(0), 0);
        due(31, "anew", x.see(0, 0, 1), 1);
        x.size(4, 4);
        due(31, "size() leaves SEEN", x.count(0), 1);
    }

    private static void fits() {
        BlockCells x = Check.of("#.../..../..../....");
        due(32, "nothing SEEN: all", x.fits(), 31);
        x.see(1, 0, 1);
        due(32, "stays: same", x.fits(), 1);
        x.see(0, 0, -1);
        x.see(1, 100, 1);
        due(32, "turn, flip", x.fits(), 2 + 8);
        x.see(1, 300, 0);
        due(32, "turn", x.fits(), 2);
        x.see(0, 0, -1);
        x.see(1, 1, 1);
        due(32, "back, flip", x.fits(), 4 + 8);
        x.see(2, 0, 1);
        due(32, "flip", x.fits(), 8);
        x.see(0, 0, -1);
        x.see(1, 101, 1);
        x.see(2, 202, 1);
        due(32, "ball", x.fits(), 16);
        x.see(0, 0, 1);
        due(32, "now", x.fits(), 16);
        x.see(0, 0, 0);
        due(32, "never", x.fits(), 0);
        x.see(0, 0, -1);
        x.see(0, 400, 0);
        due(32, "a CELL that isn't there", x.fits(), 0);
        due(32, "the RULE stays", x.rule(4), 0);
        CHECK.grid(32, "asked", x, "#.../..../..../....");
    }

    private static void fitsTimes() {
        BlockCells x = Check.of("#.../..../..../....");
        x.see(-1, 303, 1);
        due(32, "BACK: flip, ball", x.fits(), 8 + 16);
        x.see(-12, 0, 1);
        due(32, "12 BACK", x.fits(), 8 + 16);
        x.see(12, 0, 1);
        due(32, "12 STEPS", x.fits(), 8 + 16);
        x.rule(0);
        x.steps(1);
        due(32, "n STEPS from now", x.fits(), 8);
        x.size(4, 8);
        due(32, "another GRID", x.fits(), 0);
    }

    private static void event() {
        BlockCells x = new BlockCells();
        due(33, "what above", x.event(3, 0), BlockCells.NONE);
        due(33, "what below", x.event(-2, 0), BlockCells.NONE);
        due(33, "a word above", x.event(0, 5), BlockCells.BAD);
        due(33, "a word below", x.event(0, -1), BlockCells.BAD);
        due(33, "STEPS above", x.event(1, 21), BlockCells.BAD);
        due(33, "STEPS below", x.event(1, -1), BlockCells.BAD);
        due(33, "no column", x.event(2, 800), BlockCells.BAD);
        due(33, "no row", x.event(2, 8), BlockCells.BAD);
        due(33, "no CELL below", x.event(2, -1), BlockCells.BAD);
        due(33, "no CELL below", x.event(2, -100), BlockCells.BAD);
        due(33, "far", x.event(2, Integer.MIN_VALUE), BlockCells.BAD);
        due(33, "far", x.event(2, Integer.MAX_VALUE), BlockCells.BAD);
        due(33, "refused: none came", x.count(1), 0);
        due(33, "word 0", x.event(0, 0), 1);
        due(33, "word 4", x.event(0, 4), 2);
        due(33, "0 STEPS", x.event(1, 0), 3);
        due(33, "20 STEPS", x.event(1, 20), 4);
        due(33, "the first CELL", x.event(2, 0), 5);
        due(33, "the last CELL", x.event(2, 707), 6);
        due(33, "the seventh", x.event(2, 707), 7);
        due(33, "the eighth", x.event(1, 1), 8);
        due(33, "the ninth", x.event(1, 1), BlockCells.FULL);
        due(33, "NONE ahead of FULL", x.event(3, 0), BlockCells.NONE);
        due(33, "BAD ahead of FULL", x.event(1, 21), BlockCells.BAD);
        due(33, "none then", x.event(-1, 99), 0);
        due(33, "none", x.count(1), 0);
        x.size(16, 2);
        due(33, "a CELL by W, H now", x.event(2, 1501), 1);
        due(33, "no CELL by W, H now", x.event(2, 2), BlockCells.BAD);
    }

    private static void after() {
        BlockCells x = Check.of("#.../..../..../....");
        due(34, "no EVENTS: COUNT", x.after(0), 1);
        due(34, "no EVENTS: THINGS", x.after(1), 1);
        due(34, "above", x.after(2), BlockCells.NONE);
        due(34, "below", x.after(-1), BlockCells.NONE);
        x.event(2, 202);
        due(34, "a CELL more: COUNT", x.after(0), 2);
        due(34, "a CELL more: THINGS", x.after(1), 2);
        x.event(1, 1);
        due(34, "a STEP more: COUNT", x.after(0), 2);
        due(34, "a STEP more: THINGS", x.after(1), 2);
        x.event(2, 202);
        due(34, "both are joined", x.after(1), 1);
        due(34, "three", x.after(0), 3);
        x.event(0, 3);
        x.event(1, 1);
        due(34, "flip", x.after(0), 13);
        CHECK.grid(34, "asked", x, "#.../..../..../....");
        due(34, "TIME stays", x.told(2), 10000);
        due(34, "the RULE stays", x.rule(4), 0);
        due(6, "THINGS of the GRID itself", x.told(6), 1);
        x.size(2, 2);
        due(34, "a CELL that is no more", x.after(0), 4);
    }

    private static void afterOrder() {
        BlockCells x = Check.of("#.../..../..../....");
        x.event(1, 1);
        x.event(2, 101);
        due(34, "STEPS by the RULE now", x.after(0), 0);
        x.event(-1, 0);
        x.event(0, 0);
        x.event(1, 1);
        x.event(2, 0);
        due(34, "STEPS by the word ahead of them", x.after(0), 0);
        x.event(-1, 0);
        x.event(1, 2);
        x.event(2, 202);
        due(34, "two STEPS", x.after(0), 0);
        x.event(-1, 0);
        x.event(1, 1);
        x.event(1, 1);
        x.event(2, 202);
        due(34, "a STEP and a STEP", x.after(0), 0);
        x.event(-1, 0);
        x.change(1, 0);
        x.event(1, 1);
        due(34, "a RULE by exchanges", x.after(0), 3);
        for (int i = 1; i < 50; i++) x.steps(200);
        x.steps(199);
        x.event(-1, 0);
        x.event(0, 3);
        x.event(1, 19);
        due(34, "beyond TIME 9999", x.after(0), 16 - x.told(4));
    }

    private static void image() {
        BlockCells x = Check.of("#.../.#../..../....");
        due(36, "there is none", x.back(), BlockCells.STATE);
        x.toggle(3, 3);
        due(35, "COUNT", x.image(), 3);
        x.toggle(2, 2);
        due(36, "COUNT", x.back(), 3);
        CHECK.grid(36, "as THE IMAGE", x, "#.../.#../..../...#");
        due(36, "no CHANGE is left", x.told(5), 0);
        due(36, "nothing to undo", x.undo(), BlockCells.STATE);
        x.size(8, 2);
        due(36, "once more", x.back(), 3);
        due(36, "H", x.told(1), 4);
        due(36, "W", x.told(0), 4);
        x.size(2, 2);
        due(35, "another one", x.image(), 0);
        x.toggle(0, 0);
        due(36, "the new one", x.back(), 0);
        due(36, "the new one", x.told(0), 2);
    }

    private static void imageHolds() {
        BlockCells x = Check.of("#.../.#../..../....");
        x.rule(1);
        x.change(0, 15);
        x.steps(7);
        x.see(1, 2, 1);
        x.event(1, 3);
        x.event(1, 4);
        String grid = Check.spelled(x);
        int fits = x.fits();
        int after = x.after(0);
        x.image();
        x.rule(4);
        x.steps(-20);
        x.see(0, 0, -1);
        x.see(3, 3, 0);
        x.see(4, 3, 0);
        x.event(-1, 0);
        x.event(2, 0);
        x.list(0, 1);
        x.set(0, 0, 5);
        x.feed(46);
        x.size(4, 2);
        x.spell();
        x.back();
        due(36, "THE PAPER stays", x.count(3), 9);
        due(36, "THE TAPE stays", x.count(2), 1);
        due(36, "LISTS stay", x.get(0, 0), 5);
        CHECK.grid(36, "all", x, grid);
        due(36, "TIME", x.told(2), 10007);
        due(36, "the RULE", x.becomes(0, false), 15);
        due(36, "the RULE", x.becomes(1, false), 2);
        due(36, "the RULE back", x.becomes(2, true), 1);
        due(36, "SEEN", x.count(0), 1);
        due(36, "SEEN", x.fits(), fits);
        due(36, "EVENTS", x.count(1), 2);
        due(36, "EVENTS", x.after(0), after);
        x.see(0, 0, -1);
        x.rule(0);
        x.steps(1);
        x.back();
        due(36, "THE IMAGE itself stays", x.count(0), 1);
        due(36, "THE IMAGE itself stays", x.told(2), 10007);
        due(36, "THE IMAGE itself stays", x.becomes(0, false), 15);
    }

    private static void count() {
        BlockCells x = new BlockCells();
        for (int what = 0; what < 4; what++) due(37, "none", x.count(what), 0);
        x.see(0, 0, 0);
        x.event(1, 1);
        x.event(1, 1);
        x.feed(1);
        x.feed(1);
        x.feed(1);
        x.spell();
        due(37, "SEEN", x.count(0), 1);
        due(37, "EVENTS", x.count(1), 2);
        due(37, "THE TAPE", x.count(2), 3);
        due(37, "THE PAPER", x.count(3), 71);
        due(37, "below", x.count(-1), BlockCells.BAD);
        due(37, "above", x.count(4), BlockCells.BAD);
        due(37, "far", x.count(Integer.MAX_VALUE), BlockCells.BAD);
    }
}
