/** Boundary cases of promises 21 to 24: feed, read, spell, paper. */
public final class EdgesOfTextsTest {
    private static final Edges EDGES = new Edges();
    private static final int NONE = Edges.NONE, BAD = Edges.BAD, STATE = Edges.STATE, FULL = Edges.FULL, MIN = Edges.MIN, MAX = Edges.MAX;

    public static void main(String[] args) {
        feedEnds();
        feedFull();
        readGrids();
        readEmptyAndFull();
        faultsAtTheBeginning();
        faultsOfRows();
        faultsOfTheEnd();
        faultsTooMany();
        oddSides();
        faultsLeave();
        tapeIsEmpty();
        readStays();
        spellEnds();
        spellCorners();
        spellStays();
        paperEnds();
        paperStays();
        EDGES.end();
    }

    private static void feedEnds() {
        for (int n : new int[] {MIN, -1, 0, 128, 255, MAX}) {
            EDGES.leaves(21, "byte " + n + " is BAD", BAD, x -> x.feed(n));
            EDGES.leaves(21, "byte " + n + " is BAD, THE TAPE is empty", BAD, Edges::richButTape, x -> x.feed(n));
        }
        EDGES.is(21, "byte 1, the least", 1, x -> x.feed(1));
        EDGES.is(21, "byte 127, the greatest", 1, x -> x.feed(127));
        EDGES.is(21, "the second", 2, x -> { x.feed(1); return x.feed(127); });
        EDGES.is(21, "behind a BAD one", 2, x -> { x.feed(1); x.feed(0); x.feed(128); return x.feed(1); });
    }

    private static void dots(BlockCells x, int n) {
        for (int i = 0; i < n; i++) x.feed('.');
    }

    private static void feedFull() {
        EDGES.is(21, "the 299th", 299, x -> { dots(x, 298); return x.feed(1); });
        EDGES.is(21, "the 300th, the last", 300, x -> { dots(x, 299); return x.feed(127); });
        EDGES.leaves(21, "the 301st is FULL", FULL, x -> dots(x, 300), x -> x.feed('.'));
        EDGES.is(21, "the 302nd is FULL, too", FULL, x -> { dots(x, 301); return x.feed('.'); });
        EDGES.leaves(21, "THE TAPE is full: BAD 0 goes ahead", BAD, x -> dots(x, 300), x -> x.feed(0));
        EDGES.leaves(21, "THE TAPE is full: BAD 128 goes ahead", BAD, x -> dots(x, 300), x -> x.feed(128));
        EDGES.is(21, "FULL: 300 as before", 300, x -> { dots(x, 301); return x.count(2); });
        EDGES.is(21, "full, read: anew from 1", 1, x -> { dots(x, 300); x.read(); return x.feed('.'); });
    }

    private static String rows(int w, int h, char sign) {
        String row = String.valueOf(sign).repeat(w);
        return row + ("/" + row).repeat(h - 1);
    }

    private static void readGrids() {
        int[][] sides = {{2, 2}, {2, 16}, {16, 2}, {16, 16}, {4, 2}, {14, 16}, {16, 14}};
        for (int[] s : sides) {
            String name = s[0] + " by " + s[1];
            EDGES.is(22, name + " empty: COUNT", 0, x -> Check.read(x, rows(s[0], s[1], '.')));
            EDGES.is(22, name + " full: COUNT", s[0] * s[1], x -> Check.read(x, rows(s[0], s[1], '#')));
            EDGES.is(22, name + ": W", s[0], x -> { Check.read(x, rows(s[0], s[1], '.')); return x.told(0); });
            EDGES.is(22, name + ": H", s[1], x -> { Check.read(x, rows(s[0], s[1], '.')); return x.told(1); });
            EDGES.is(22, name + ": the last CELL", 1, x -> {
                String text = rows(s[0], s[1], '.');
                Check.read(x, text.substring(0, text.length() - 1) + "#");
                return x.cell(s[0] - 1, s[1] - 1);
            });
        }
        EDGES.is(22, "first CELL", 1, x -> { Check.read(x, "#./.."); return x.cell(0, 0); });
        EDGES.is(22, "last of the first row", 1, x -> { Check.read(x, ".#/.."); return x.cell(1, 0); });
        EDGES.is(22, "first of the last row", 1, x -> { Check.read(x, "../#."); return x.cell(0, 1); });
        EDGES.is(22, "last CELL", 1, x -> { Check.read(x, "../.#"); return x.cell(1, 1); });
    }

    private static void readEmptyAndFull() {
        EDGES.is(22, "the empty TAPE: the end is too early, place 0", -100, x -> x.read());
        EDGES.is(22, "the empty TAPE, read once more", -100, x -> { x.read(); return x.read(); });
        EDGES.is(22, "THE TAPE behind a GRID is empty", -100, x -> { Check.read(x, "../.."); return x.read(); });
        EDGES.is(22, "THE TAPE behind a FAULT is empty", -100, x -> { Check.read(x, "../."); return x.read(); });
        EDGES.is(22, "the full TAPE of one sign", -116, x -> { dots(x, 300); return x.read(); });
        EDGES.is(22, "the full TAPE, 16 by 16 and more", -371, x -> {
            Check.feed(x, rows(16, 16, '#'));
            dots(x, 29);
            return x.count(2) == 300 ? x.read() : 0;
        });
        EDGES.is(22, "the full TAPE, a GRID ahead of it was read", 4, x -> { Check.read(x, "##/##"); dots(x, 300); x.read(); return x.told(4); });
    }

    private static void fault(String edge, int want, String text) {
        EDGES.leaves(22, edge, want, Edges::richButTape, x -> Check.read(x, text));
    }

    private static void faultsAtTheBeginning() {
        fault("a / ahead of all: place 0", -100, "/");
        fault("a / ahead of a GRID: place 0", -100, "/../..");
        fault("another byte ahead of all: place 0", -100, "x../..");
        fault("the sign behind . : place 0", -100, "0");
        fault("the sign ahead of . : place 0", -100, "-./..");
        fault("the sign ahead of # : place 0", -100, "\"./..");
        fault("the sign behind # : place 0", -100, "$./..");
        fault("byte 1, the least: place 1", -101, ".\u0001/..");
        fault("byte 127, the greatest: place 1", -101, ".\u007f/..");
        fault("another byte in the first row", -101, ". ./..");
        fault("another byte in the last row", -106, ".../..x");
        fault("another byte instead of the first /", -102, "..x..");
        fault("the first of two other bytes", -101, ".xy/..");
    }

    private static void faultsOfRows() {
        fault("a row longer than the first", -105, "../...");
        fault("a row longer than the first, and more", -105, "../.../..");
        fault("the last row longer than the first", -108, "../../...");
        fault("a row longer than the first of 15", -131, rows(15, 1, '.') + "/" + rows(16, 1, '.'));
        fault("a row shorter than the first, a /", -104, ".././..");
        fault("a row shorter than the first, the end", -104, "../.");
        fault("a row shorter than the first of 16, the end", -132, rows(16, 1, '.') + "/" + rows(15, 1, '.'));
        fault("a row shorter than the first of 16, a /", -132, rows(16, 1, '.') + "/" + rows(15, 1, '.') + "/");
        fault("a row of none, a /", -103, "..//..");
        fault("a row of none behind the last one", -106, "../..//");
        fault("the first row of none", -100, "//");
    }

    private static void faultsOfTheEnd() {
        fault("the end behind the first /", -103, "../");
        fault("the end behind a last /", -106, "../../");
        fault("the end behind the 15th /", -145, rows(2, 15, '.') + "/");
        fault("the end within the 16th row", -146, rows(2, 15, '.') + "/.");
        fault("the end one sign too early", -118, "..../..../..../...");
        EDGES.is(22, "the end one sign too early, 16 by 16", -370, x -> Check.read(x, rows(16, 16, '.').substring(0, 270)));
    }

    private static void faultsTooMany() {
        fault("a 17th sign in the first row", -116, rows(17, 1, '.'));
        fault("a 17th sign in the first row, and more", -116, rows(17, 2, '#'));
        fault("a 17th sign in the second row", -133, rows(16, 1, '.') + "/" + rows(17, 1, '.'));
        fault("a / behind the 16th row", -147, rows(2, 16, '.') + "/");
        fault("a 17th row", -147, rows(2, 17, '.'));
        fault("a sign more behind the 16th row", -147, rows(2, 16, '.') + ".");
        fault("another byte behind the 16th row", -147, rows(2, 16, '.') + "x");
        EDGES.is(22, "16 by 16 and a sign", -371, x -> Check.read(x, rows(16, 16, '.') + "."));
        EDGES.is(22, "16 by 16 and a /", -371, x -> Check.read(x, rows(16, 16, '.') + "/"));
        EDGES.is(22, "16 by 17", -371, x -> Check.read(x, rows(16, 17, '.')));
    }

    private static void oddSides() {
        int[][] sides = {{1, 1}, {2, 1}, {16, 1}, {1, 2}, {1, 16}, {3, 2}, {2, 3}, {3, 3}, {2, 15}, {15, 2}, {15, 1}, {15, 3}};
        for (int[] s : sides) fault(s[0] + " by " + s[1] + " is odd", -500, rows(s[0], s[1], '#'));
        EDGES.is(22, "15 by 16 is odd", -500, x -> Check.read(x, rows(15, 16, '.')));
        EDGES.is(22, "16 by 15 is odd", -500, x -> Check.read(x, rows(16, 15, '.')));
        EDGES.is(22, "15 by 15 is odd", -500, x -> Check.read(x, rows(15, 15, '.')));
        fault("W odd, and a row too short: kind 1", -106, ".../..");
        fault("W odd, and another byte: kind 1", -103, "...x...");
        fault("H odd, and a row too long: kind 1", -108, "../../...");
        fault("H odd, and the last row too short: kind 1", -107, "../../.");
    }

    private static void faultsLeave() {
        EDGES.grid(22, "a FAULT at the last place: the GRID as it was", "#./.#", x -> { Check.read(x, "#./.#"); Check.read(x, "####/####/####/###"); });
        EDGES.grid(22, "a FAULT of kind 2: the GRID as it was", "#./.#", x -> { Check.read(x, "#./.#"); Check.read(x, "##/##/##"); });
        EDGES.grid(22, "a 17th row: the GRID as it was", "#./.#", x -> { Check.read(x, "#./.#"); Check.read(x, rows(2, 17, '#')); });
        EDGES.is(22, "a FAULT leaves TIME at its end", 1, x -> { Edges.toTime(x, -9999); Check.read(x, "../."); return x.told(2); });
    }

    private static void tapeIsEmpty() {
        EDGES.is(22, "THE TAPE is empty behind a GRID", 0, x -> { Check.read(x, "../.."); return x.count(2); });
        EDGES.is(22, "THE TAPE is empty behind a FAULT of kind 1", 0, x -> { Check.read(x, "../."); return x.count(2); });
        EDGES.is(22, "THE TAPE is empty behind a FAULT of kind 2", 0, x -> { Check.read(x, ".."); return x.count(2); });
        EDGES.is(22, "THE TAPE is empty behind a full one", 0, x -> { dots(x, 300); x.read(); return x.count(2); });
        EDGES.is(22, "a longer text was read: its next / doesn't count", 1, x -> { Check.read(x, "../../../.."); return Check.read(x, "../.#"); });
        EDGES.is(22, "a longer text was read: its next / makes no second row", -500, x -> { Check.read(x, "../../../.."); return Check.read(x, ".."); });
        EDGES.is(22, "a longer text was read: its next sign doesn't count", -104, x -> { Check.read(x, "####/####"); return Check.read(x, "../."); });
        EDGES.is(22, "what was read is not read again", 1, x -> { Check.read(x, "##/##"); return Check.read(x, "../.#"); });
    }

    private static void readStays() {
        for (int time : new int[] {-9999, -1, 9999}) {
            EDGES.is(22, "TIME " + time + " stays", 10000 + time, x -> { Edges.toTime(x, time); Check.read(x, "../.."); return x.told(2); });
        }
        EDGES.is(22, "the RULE stays", 15, x -> { x.change(0, 15); Check.read(x, "../.."); return x.becomes(0, false); });
        EDGES.is(22, "THE PAPER stays", 71, x -> { x.spell(); Check.read(x, "../.."); return x.count(3); });
        EDGES.is(22, "THE PAPER that holds nothing stays", 0, x -> { Check.read(x, "../.."); return x.count(3); });
        EDGES.is(22, "LISTS stay", 7, x -> { x.list(3, 20); x.set(3, 19, 7); Check.read(x, "../.."); return x.get(3, 19); });
        EDGES.is(22, "SEEN stay", 1, x -> { x.see(0, 0, 0); Check.read(x, "../.."); return x.count(0); });
        EDGES.is(22, "EVENTS stay", 1, x -> { x.event(1, 1); Check.read(x, "../.."); return x.count(1); });
        EDGES.is(22, "THE IMAGE stays", 1, x -> { x.toggle(0, 0); x.image(); Check.read(x, "../.."); return x.back(); });
        EDGES.is(22, "12 CHANGES: none is left", STATE, x -> { Edges.changes(x, 12); Check.read(x, "../.."); return x.undo(); });
        EDGES.is(22, "a greater GRID's CELLS are gone", 0, x -> { Edges.full(x, 16, 16); Check.read(x, "../.."); x.size(16, 16); return x.told(4); });
        EDGES.is(22, "a greater GRID over a full one", 0, x -> { Edges.full(x, 2, 2); return Check.read(x, "..../..../..../...."); });
    }

    private static void spellEnds() {
        EDGES.is(23, "the least GRID: how many bytes", 5, x -> { x.size(2, 2); return x.spell(); });
        EDGES.is(23, "the greatest GRID: how many bytes", 271, x -> { x.size(16, 16); return x.spell(); });
        EDGES.is(23, "2 by 16: how many bytes", 47, x -> { x.size(2, 16); return x.spell(); });
        EDGES.is(23, "16 by 2: how many bytes", 33, x -> { x.size(16, 2); return x.spell(); });
        EDGES.grid(23, "the least GRID, empty", "../..", x -> x.size(2, 2));
        EDGES.grid(23, "the least GRID, full", "##/##", x -> Edges.full(x, 2, 2));
        EDGES.grid(23, "the greatest GRID, empty", rows(16, 16, '.'), x -> x.size(16, 16));
        EDGES.grid(23, "the greatest GRID, full", rows(16, 16, '#'), x -> Edges.full(x, 16, 16));
        EDGES.grid(23, "2 by 16", rows(2, 16, '#'), x -> Edges.full(x, 2, 16));
        EDGES.grid(23, "16 by 2", rows(16, 2, '#'), x -> Edges.full(x, 16, 2));
    }

    private static void spellCorners() {
        EDGES.grid(23, "corner 0, 0", "#.../..../..../....", x -> { x.size(4, 4); x.toggle(0, 0); });
        EDGES.grid(23, "corner 3, 0", "...#/..../..../....", x -> { x.size(4, 4); x.toggle(3, 0); });
        EDGES.grid(23, "corner 0, 3", "..../..../..../#...", x -> { x.size(4, 4); x.toggle(0, 3); });
        EDGES.grid(23, "corner 3, 3", "..../..../..../...#", x -> { x.size(4, 4); x.toggle(3, 3); });
        EDGES.is(23, "a longer one becomes a shorter one", 5, x -> { x.spell(); x.size(2, 2); x.spell(); return x.count(3); });
        EDGES.is(23, "a shorter one becomes a longer one", '.', x -> { x.size(2, 2); x.spell(); x.size(16, 16); x.spell(); return x.paper(270); });
    }

    private static void spellStays() {
        EDGES.leaves(23, "once more, THE PAPER is the same", 29, x -> { Edges.rich(x); x.spell(); }, x -> x.spell());
        EDGES.is(23, "CHANGES stay", 12, x -> { Edges.changes(x, 12); x.spell(); return x.told(5); });
        EDGES.is(23, "COUNT stays", 256, x -> { Edges.full(x, 16, 16); x.spell(); return x.told(4); });
        EDGES.is(23, "TIME stays", 1, x -> { Edges.toTime(x, -9999); x.spell(); return x.told(2); });
        EDGES.is(23, "THE TAPE stays", 3, x -> { dots(x, 3); x.spell(); return x.count(2); });
        EDGES.is(23, "the full TAPE stays", 300, x -> { dots(x, 300); x.spell(); return x.count(2); });
    }

    private static void paperEnds() {
        for (int n : new int[] {MIN, -2, -1}) EDGES.leaves(24, "place " + n + " is below 0: NONE", NONE, x -> x.paper(n));
        EDGES.leaves(24, "place -1 of nothing", NONE, x -> { }, x -> x.paper(-1));
        EDGES.leaves(24, "place 0 of nothing", -5, x -> { }, x -> x.paper(0));
        EDGES.leaves(24, "the greatest int of nothing", -5, x -> { }, x -> x.paper(MAX));
        for (int n : new int[] {29, 30, 271, MAX}) EDGES.leaves(24, "place " + n + " of 29: it is shorter", -5, x -> x.paper(n));
        EDGES.leaves(24, "place 0, the first", '.', x -> { x.size(2, 2); x.toggle(1, 1); x.spell(); }, x -> x.paper(0));
        EDGES.leaves(24, "place 4 of 5, the last", '#', x -> { x.size(2, 2); x.toggle(1, 1); x.spell(); }, x -> x.paper(4));
        EDGES.leaves(24, "place 5 of 5", -5, x -> { x.size(2, 2); x.toggle(1, 1); x.spell(); }, x -> x.paper(5));
        EDGES.is(24, "place 270 of 271, the last", '#', x -> { x.size(16, 16); x.toggle(15, 15); x.spell(); return x.paper(270); });
        EDGES.is(24, "place 271 of 271", -5, x -> { x.size(16, 16); x.spell(); return x.paper(271); });
        EDGES.is(24, "the first /", '/', x -> { x.size(2, 2); x.spell(); return x.paper(2); });
        EDGES.is(24, "the last /", '/', x -> { x.size(16, 16); x.spell(); return x.paper(254); });
        EDGES.is(24, "behind a shorter one there is nothing of the longer one", -5, x -> { x.spell(); x.size(2, 2); x.spell(); return x.paper(6); });
    }

    private static void paperOf(String edge, Edges.Ahead call) {
        EDGES.is(24, edge + " doesn't change THE PAPER", 0x23000047, x -> {
            x.toggle(0, 0);
            x.image();
            x.list(0, 8);
            x.spell();
            call.on(x);
            return x.paper(0) << 24 | x.count(3);
        });
    }

    private static void paperStays() {
        paperOf("size()", x -> x.size(2, 2));
        paperOf("BAD size()", x -> x.size(1, 2));
        paperOf("toggle()", x -> x.toggle(0, 0));
        paperOf("undo()", x -> x.undo());
        paperOf("steps()", x -> x.steps(1));
        paperOf("load()", x -> x.load(0, 0));
        paperOf("lay()", x -> x.lay(0, 0));
        paperOf("feed()", x -> x.feed('.'));
        paperOf("read()", x -> Check.read(x, "../.."));
        paperOf("read() of the empty TAPE", x -> x.read());
        paperOf("image()", x -> x.image());
        paperOf("back()", x -> { x.size(2, 2); x.back(); });
    }
}
