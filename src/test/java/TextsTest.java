/** Promises 21 to 30: texts and lists. */
public final class TextsTest {
    private static final Check CHECK = new Check();

    public static void main(String[] args) {
        feed();
        read();
        readGreatest();
        faults();
        faultsOfLongTexts();
        oddSides();
        spell();
        paper();
        list();
        set();
        get();
        lay();
        load();
        judge();
        constants();
        CHECK.end();
    }

    private static void due(int promise, String what, long got, long want) {
        CHECK.due(promise, what, got, want);
    }

    private static void feed() {
        BlockCells x = new BlockCells();
        due(21, "least", x.feed(1), 1);
        due(21, "most", x.feed(127), 2);
        due(21, "below", x.feed(0), BlockCells.BAD);
        due(21, "above", x.feed(128), BlockCells.BAD);
        due(21, "far", x.feed(Integer.MIN_VALUE), BlockCells.BAD);
        due(21, "BAD adds none", x.count(2), 2);
        for (int i = 3; i <= 300; i++) due(21, "so many", x.feed(46), i);
        due(21, "301", x.feed(46), BlockCells.FULL);
        due(21, "BAD ahead of FULL", x.feed(128), BlockCells.BAD);
        due(21, "still 300", x.count(2), 300);
        due(22, "byte 1 begins none", x.read(), -100);
        due(22, "THE TAPE is empty behind a FAULT", x.count(2), 0);
        due(21, "anew", x.feed(46), 1);
    }

    private static void read() {
        BlockCells x = new BlockCells();
        x.rule(1);
        x.steps(5);
        x.spell();
        x.toggle(0, 0);
        due(22, "COUNT", Check.read(x, "#..#/.#../..../...#"), 4);
        due(22, "W", x.told(0), 4);
        due(22, "H", x.told(1), 4);
        due(22, "TIME stays", x.told(2), 10005);
        due(22, "the RULE stays", x.becomes(1, false), 2);
        due(22, "THE PAPER stays", x.count(3), 71);
        due(22, "no CHANGE is left", x.told(5), 0);
        due(22, "THE TAPE is empty", x.count(2), 0);
        CHECK.grid(22, "as read", x, "#..#/.#../..../...#");
        due(22, "2 by 2", Check.read(x, "../#."), 1);
        CHECK.grid(22, "2 by 2", x, "../#.");
    }

    private static void readGreatest() {
        String row = "#..............#";
        BlockCells x = new BlockCells();
        due(22, "16 by 16", Check.read(x, row + ("/" + row).repeat(15)), 32);
        due(22, "W", x.told(0), 16);
        due(22, "H", x.told(1), 16);
        for (int y = 0; y < 16; y++) {
            for (int column = 0; column < 7; column++) due(22, "16 by 16 as read", x.cell(column, y), row.charAt(column) == '#' ? 1 : 0);
            due(22, "16 by 16 as read", x.cell(15, y), 1);
        }
    }

    private static void faults() {
        BlockCells x = Check.of("#./.#");
        String[] texts = {
            "", "/", "a", ".", "x.", "..x", "../", "../.", "../...", "../.x", ".././", "..//", "../../", "../../.",
            "../../...", "..../..", "..../../..", ". ./..", "../..\n", "./..", ".../..", "./.x", "../..//",
        };
        int[] faults = {
            -100, -100, -100, -500, -100, -102, -103, -104, -105, -104, -104, -103, -106, -107,
            -108, -107, -107, -101, -105, -103, -106, -103, -106,
        };
        for (int i = 0; i < texts.length; i++) due(22, "text " + texts[i], Check.read(x, texts[i]), faults[i]);
        CHECK.grid(22, "FAULTS", x, "#./.#");
        due(22, "THE TAPE is empty", x.count(2), 0);
    }

    private static void faultsOfLongTexts() {
        String[] texts = {
            ".".repeat(17), ".".repeat(16) + "/" + ".".repeat(17), ".." + "/..".repeat(15) + "/", ".." + "/..".repeat(16),
            ".." + "/..".repeat(14) + "/", ".".repeat(16) + ("/" + ".".repeat(16)).repeat(15) + ".",
        };
        int[] faults = {-116, -133, -147, -147, -145, -371};
        for (int i = 0; i < texts.length; i++) {
            BlockCells x = Check.of("#./.#");
            due(22, "text " + texts[i], Check.read(x, texts[i]), faults[i]);
            CHECK.grid(22, "FAULTS", x, "#./.#");
            due(22, "THE TAPE is empty", x.count(2), 0);
        }
    }

    private static void oddSides() {
        BlockCells x = Check.of("#./.#");
        String[] texts = {".", "..", "...", "./.", ".../...", "../../..", "#/#/#", "...............", ".".repeat(16)};
        for (String text : texts) due(22, "text " + text, Check.read(x, text), -500);
        due(22, "kind 1 goes ahead", Check.read(x, ".../.."), -106);
        CHECK.grid(22, "odd sides", x, "#./.#");
        due(22, "CHANGES stay", x.toggle(0, 1), 1);
        Check.read(x, ".../...");
        due(22, "CHANGES stay", x.undo(), 1);
    }

    private static void spell() {
        BlockCells x = Check.of("#.../...#/.##./####");
        due(37, "THE PAPER holds nothing", x.count(3), 0);
        due(23, "bytes", x.spell(), 19);
        String want = "#.../...#/.##./####";
        for (int i = 0; i < 19; i++) due(23, "byte " + i, x.paper(i), want.charAt(i));
        due(24, "behind it", x.paper(19), -5);
        x.size(2, 2);
        due(23, "nothing else changes it", x.paper(0), '#');
        due(23, "nothing else changes it", x.count(3), 19);
        due(23, "shorter", x.spell(), 5);
        due(24, "shorter", x.paper(5), -5);
        due(24, "the last", x.paper(4), '.');
        x.size(16, 16);
        due(23, "longest", x.spell(), 271);
        due(24, "the last", x.paper(270), '.');
        due(24, "behind it", x.paper(271), -5);
        due(23, "TIME stays", x.told(2), 10000);
    }

    private static void paper() {
        BlockCells x = new BlockCells();
        due(24, "nothing", x.paper(0), -5);
        due(24, "below", x.paper(-1), BlockCells.NONE);
        due(24, "far below", x.paper(Integer.MIN_VALUE), BlockCells.NONE);
        due(24, "far", x.paper(Integer.MAX_VALUE), -5);
        x.spell();
        due(24, "/", x.paper(8), '/');
        due(24, ".", x.paper(7), '.');
    }

    private static void list() {
        BlockCells x = new BlockCells();
        for (int list = 0; list < 4; list++) due(25, "LIST " + list, x.list(list, 20), 1);
        x.set(2, 0, 4);
        x.set(2, 19, 5);
        x.set(1, 19, 6);
        due(25, "anew", x.list(2, 20), 1);
        due(25, "all 0", x.get(2, 0), 0);
        due(25, "all 0", x.get(2, 19), 0);
        due(25, "others stay", x.get(1, 19), 6);
        due(25, "shorter", x.list(1, 3), 1);
        due(25, "shorter", x.get(1, 3), BlockCells.NO);
        due(25, "longer again", x.list(1, 20), 1);
        due(25, "all 0", x.get(1, 19), 0);
        due(25, "none of it", x.list(0, 0), 1);
        due(25, "a row of none is no place, not nothing", x.set(0, 0, 1), -13);
        due(25, "LIST above", x.list(4, 1), BlockCells.NONE);
        due(25, "LIST below", x.list(-1, 1), BlockCells.NONE);
        due(25, "n above", x.list(0, 21), BlockCells.BAD);
        due(25, "n below 0", x.list(0, -1), -14);
        due(25, "n far", x.list(0, Integer.MIN_VALUE), -14);
        due(25, "n far", x.list(0, Integer.MAX_VALUE), BlockCells.BAD);
        due(25, "NONE ahead of BAD", x.list(4, 21), BlockCells.NONE);
        due(25, "NONE ahead of SIZE", x.list(-1, -1), BlockCells.NONE);
        x.list(3, 2);
        x.set(3, 1, 9);
        x.list(3, 21);
        x.list(3, -1);
        due(25, "refused: as it was", x.get(3, 1), 9);
    }

    private static void set() {
        BlockCells x = new BlockCells();
        due(26, "nothing", x.set(0, 0, 1), -11);
        due(26, "nothing ahead of PLACE", x.set(0, -1, 1), -11);
        x.list(0, 3);
        due(26, "the first", x.set(0, 0, Long.MIN_VALUE), 1);
        due(26, "the last", x.set(0, 2, Long.MAX_VALUE), 1);
        due(27, "the first", x.get(0, 0), Long.MIN_VALUE);
        due(27, "the last", x.get(0, 2), Long.MAX_VALUE);
        due(27, "between", x.get(0, 1), 0);
        due(26, "beyond", x.set(0, 3, 1), -13);
        due(26, "below", x.set(0, -1, 1), -13);
        due(26, "far", x.set(0, Integer.MAX_VALUE, 1), -13);
        due(26, "LIST above", x.set(4, 0, 1), BlockCells.NONE);
        due(26, "LIST below", x.set(-1, 0, 1), BlockCells.NONE);
    }

    private static void get() {
        BlockCells x = new BlockCells();
        due(27, "nothing", x.get(0, 0), BlockCells.NO);
        x.list(3, 2);
        x.set(3, 1, -77);
        due(27, "place 1", x.get(3, 1), -77);
        due(27, "beyond", x.get(3, 2), BlockCells.NO);
        due(27, "below", x.get(3, -1), BlockCells.NO);
        due(27, "LIST above", x.get(4, 0), BlockCells.NO);
        due(27, "LIST below", x.get(-1, 0), BlockCells.NO);
        due(27, "far", x.get(Integer.MIN_VALUE, Integer.MAX_VALUE), BlockCells.NO);
    }

    private static void lay() {
        BlockCells x = Check.of("#..#/.#../..../..##");
        due(28, "nothing", x.lay(0, 0), -11);
        due(28, "nothing ahead of PLACE", x.lay(0, -1), -11);
        x.list(0, 6);
        x.set(0, 0, 100);
        x.set(0, 5, 200);
        due(28, "H", x.lay(0, 1), 4);
        long[] want = {100, 9, 2, 0, 12, 200};
        for (int i = 0; i < 6; i++) due(28, "place " + i, x.get(0, i), want[i]);
        due(28, "not all", x.lay(0, 4), -13);
        due(28, "those that had a place", x.get(0, 4), 9);
        due(28, "those that had a place", x.get(0, 5), 2);
        due(28, "the others stay", x.get(0, 1), 9);
        due(28, "below 0", x.lay(0, -1), -13);
        due(28, "below 0: none", x.get(0, 0), 100);
        due(28, "far", x.lay(0, Integer.MAX_VALUE), -13);
        due(28, "far below", x.lay(0, Integer.MIN_VALUE), -13);
        due(28, "LIST above", x.lay(4, 0), BlockCells.NONE);
        due(28, "LIST below", x.lay(-1, 0), BlockCells.NONE);
        x.list(1, 0);
        due(28, "no place at all", x.lay(1, 0), -13);
        BlockCells wide = Check.of("...............#/#..............#");
        wide.list(2, 2);
        due(28, "2 rows", wide.lay(2, 0), 2);
        due(28, "bit 15", wide.get(2, 0), 32768);
        due(28, "bits 0 and 15", wide.get(2, 1), 32769);
    }

    private static void load() {
        BlockCells x = Check.of("#.../..../..../....");
        x.rule(1);
        x.steps(3);
        due(29, "nothing", x.load(0, 0), -11);
        due(29, "nothing ahead of PLACE", x.load(0, -1), -11);
        x.list(0, 5);
        x.set(0, 0, -1);
        x.set(0, 1, 0x7000000000000015L);
        x.set(0, 3, 2);
        x.set(0, 4, Long.MIN_VALUE);
        String before = Check.spelled(x);
        x.toggle(0, 0);
        x.toggle(0, 0);
        due(29, "not all there", x.load(0, 2), -13);
        due(29, "below 0", x.load(0, -1), -13);
        due(29, "far", x.load(0, Integer.MAX_VALUE), -13);
        due(29, "far below", x.load(0, Integer.MIN_VALUE), -13);
        CHECK.grid(29, "refused", x, before);
        due(29, "CHANGES stay", x.told(5), 2);
        due(29, "COUNT", x.load(0, 1), 3);
        CHECK.grid(29, "other bits don't count", x, "#.#./..../.#../....");
        due(29, "no CHANGE is left", x.told(5), 0);
        due(29, "TIME stays", x.told(2), 10003);
        due(29, "the RULE stays", x.rule(1), 0);
        due(29, "from 0", x.load(0, 0), 4 + 2 + 0 + 1);
        due(29, "the LIST stays", x.get(0, 0), -1);
        due(29, "LIST above", x.load(4, 0), BlockCells.NONE);
        due(29, "LIST below", x.load(-1, 0), BlockCells.NONE);
    }

    private static void judge() {
        BlockCells x = Check.of("#..#/.#../..../..##");
        due(30, "nothing", x.judge(0, 0), 100);
        x.list(0, 7);
        x.lay(0, 2);
        due(30, "none is otherwise", x.judge(0, 2), -5);
        x.set(0, 6, 1);
        due(30, "what is behind H rows isn't looked at", x.judge(0, 2), -5);
        due(30, "the first is otherwise", x.judge(0, 0), 0);
        x.set(0, 2 + 3, 13);
        due(30, "the last is otherwise", x.judge(0, 2), 3);
        x.set(0, 2 + 1, 2 + 16);
        due(30, "a bit beyond W", x.judge(0, 2), 1);
        x.set(0, 2 + 1, 2 + (1L << 40));
        due(30, "a bit far beyond W", x.judge(0, 2), 1);
        x.list(0, 3);
        x.lay(0, 0);
        due(30, "it ends ahead of that", x.judge(0, 0), 103);
        x.lay(0, 1);
        due(30, "it ends ahead of that", x.judge(0, 1), 102);
        due(30, "otherwise ahead of the end", x.judge(0, 2), 0);
        due(30, "at the end", x.judge(0, 3), 100);
        due(30, "below 0", x.judge(0, -1), 100);
        due(30, "far", x.judge(0, Integer.MAX_VALUE), 100);
        due(30, "far below", x.judge(0, Integer.MIN_VALUE), 100);
        x.list(1, 0);
        due(30, "a row of none", x.judge(1, 0), 100);
        due(30, "LIST above", x.judge(4, 0), BlockCells.NONE);
        due(30, "LIST below", x.judge(-1, 0), BlockCells.NONE);
    }

    private static void constants() {
        due(27, "NO", BlockCells.NO, Long.MIN_VALUE);
        due(3, "NONE", BlockCells.NONE, -1);
        due(2, "BAD", BlockCells.BAD, -2);
        due(4, "STATE", BlockCells.STATE, -3);
        due(21, "FULL", BlockCells.FULL, -4);
    }
}
