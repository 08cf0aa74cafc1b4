/** Boundary cases of promises 31 to 37: see, fits, event, after, image, back, count. */
public final class EdgesOfSeenTest {
    private static final Edges EDGES = new Edges();
    private static final int NONE = Edges.NONE, BAD = Edges.BAD, STATE = Edges.STATE, FULL = Edges.FULL, MIN = Edges.MIN, MAX = Edges.MAX;

    public static void main(String[] args) {
        seeRefused();
        seeEnds();
        seeFull();
        seeNone();
        seeStays();
        fitsEmptyAndFull();
        fitsEnds();
        fitsCells();
        fitsTimes();
        eventRefused();
        eventEnds();
        eventFull();
        eventNone();
        afterRefused();
        afterEnds();
        afterFull();
        afterGone();
        afterRound();
        afterTimes();
        image();
        backRefused();
        backGrids();
        backTimes();
        backTables();
        backTwice();
        backStays();
        countEnds();
        countFull();
        EDGES.end();
    }

    private static void seeRefused() {
        for (int n : new int[] {MIN, -13, 13, MAX}) EDGES.leaves(31, "n " + n + " is BAD", BAD, x -> x.see(n, 0, 0));
        for (int cell : new int[] {MIN, -1500, -101, -100, -1, 16, 99, 116, 1416, 1499, 1516, 1599, 1600, 1615, MAX}) {
            EDGES.leaves(31, "cell " + cell + " is BAD", BAD, x -> x.see(0, cell, 0));
        }
        for (int v : new int[] {MIN, -2, 2, MAX}) EDGES.leaves(31, "v " + v + " is BAD", BAD, x -> x.see(0, 0, v));
        EDGES.leaves(31, "all just above the greatest", BAD, x -> x.see(13, 1516, 2));
        EDGES.leaves(31, "all the least int", BAD, x -> x.see(MIN, MIN, MIN));
    }

    private static void seeEnds() {
        for (int n : new int[] {-12, 0, 12}) EDGES.is(31, "n " + n + " comes", 1, x -> x.see(n, 0, 0));
        for (int cell : new int[] {0, 15, 100, 1400, 1415, 1500, 1515}) EDGES.is(31, "cell " + cell + " comes", 1, x -> x.see(0, cell, 0));
        for (int v : new int[] {0, 1}) EDGES.is(31, "v " + v + " comes", 1, x -> x.see(0, 0, v));
        EDGES.is(31, "a CELL beyond W and H comes", 1, x -> { x.size(2, 2); return x.see(0, 1515, 1); });
        EDGES.is(31, "the same row twice", 2, x -> { x.see(0, 0, 1); return x.see(0, 0, 1); });
        EDGES.is(31, "a row that contradicts", 2, x -> { x.see(0, 0, 1); return x.see(0, 0, 0); });
    }

    private static void rows(BlockCells x, int n) {
        for (int i = 0; i < n; i++) x.see(0, 0, 0);
    }

    private static void seeFull() {
        EDGES.is(31, "the fourth", 4, x -> { rows(x, 3); return x.see(0, 0, 0); });
        EDGES.is(31, "the fifth, the last", 5, x -> { rows(x, 4); return x.see(0, 0, 0); });
        EDGES.leaves(31, "the sixth is FULL", FULL, x -> rows(x, 5), x -> x.see(0, 0, 1));
        EDGES.leaves(31, "the sixth is FULL, beside all else", FULL, x -> { Edges.rich(x); rows(x, 2); }, x -> x.see(12, 1515, 1));
        EDGES.leaves(31, "full: n 13, BAD goes ahead", BAD, x -> rows(x, 5), x -> x.see(13, 0, 0));
        EDGES.leaves(31, "full: cell 1516, BAD goes ahead", BAD, x -> rows(x, 5), x -> x.see(0, 1516, 0));
        EDGES.leaves(31, "full: v 2, BAD goes ahead", BAD, x -> rows(x, 5), x -> x.see(0, 0, 2));
        EDGES.is(31, "FULL: five as before", 5, x -> { rows(x, 7); return x.count(0); });
    }

    private static void seeNone() {
        EDGES.leaves(31, "v -1, there is none", 0, x -> { }, x -> x.see(0, 0, -1));
        EDGES.is(31, "v -1, full", 0, x -> { rows(x, 5); return x.see(0, 0, -1); });
        EDGES.is(31, "v -1, full: none then", 0, x -> { rows(x, 5); x.see(0, 0, -1); return x.count(0); });
        EDGES.is(31, "v -1, full: all fit then", 31, x -> { x.see(0, 0, 1); rows(x, 4); x.see(0, 0, -1); return x.fits(); });
        EDGES.is(31, "v -1, full: anew from 1", 1, x -> { rows(x, 5); x.see(0, 0, -1); return x.see(0, 0, 0); });
        int[][] others = {{MIN, MIN}, {MAX, MAX}, {13, 0}, {0, -1}, {-13, 1516}};
        for (int[] o : others) EDGES.is(31, "v -1, n " + o[0] + ", cell " + o[1] + ": whatever they are", 0, x -> { rows(x, 2); return x.see(o[0], o[1], -1); });
        for (int[] o : others) EDGES.is(31, "v -1, n " + o[0] + ", cell " + o[1] + ": none then", 0, x -> { rows(x, 2); x.see(o[0], o[1], -1); return x.count(0); });
        EDGES.is(31, "v -1 leaves EVENTS", 1, x -> { x.event(1, 1); x.see(0, 0, -1); return x.count(1); });
    }

    private static void seeStays() {
        EDGES.is(31, "another RULE leaves SEEN", 5, x -> { rows(x, 5); x.rule(0); return x.count(0); });
        EDGES.is(31, "STEPS leave SEEN", 5, x -> { rows(x, 5); x.steps(200); return x.count(0); });
        EDGES.is(31, "load() leaves SEEN", 5, x -> { rows(x, 5); x.list(0, 8); x.load(0, 0); return x.count(0); });
        EDGES.is(31, "EVENTS leave SEEN", 5, x -> { rows(x, 5); x.event(-1, 0); return x.count(0); });
        EDGES.is(31, "it is no CHANGE and no CELL", 0, x -> { x.see(0, 0, 1); return x.told(4) + x.told(5); });
    }

    private static void fitsEmptyAndFull() {
        EDGES.leaves(32, "nothing SEEN: all five", 31, x -> { }, x -> x.fits());
        EDGES.leaves(32, "nothing SEEN, a RULE by exchanges: all five", 31, x -> x.change(0, 15), x -> x.fits());
        EDGES.leaves(32, "full, all is so", 31, x -> rows(x, 5), x -> x.fits());
        for (int i = 0; i < 5; i++) {
            int wrong = i;
            EDGES.is(32, "full, row " + i + " alone isn't so", 0, x -> {
                for (int k = 0; k < 5; k++) x.see(0, 0, k == wrong ? 1 : 0);
                return x.fits();
            });
            EDGES.is(32, "full, row " + i + " alone is so by flip alone", 8, x -> {
                for (int k = 0; k < 5; k++) x.see(k == wrong ? 1 : 0, 0, k == wrong ? 1 : 0);
                return x.fits();
            });
        }
        EDGES.leaves(32, "an empty GRID: flip alone", 8, x -> { x.size(16, 16); x.see(11, 1515, 1); }, x -> x.fits());
        EDGES.leaves(32, "a full GRID: all but flip", 23, x -> { Edges.full(x, 16, 16); x.see(-11, 1515, 1); }, x -> x.fits());
    }

    /** By ball the CELL from 0, 0 is n columns and rows on, by the other words it isn't. */
    private static void fitsEnds() {
        Edges.Ahead ball = x -> { x.size(16, 16); x.toggle(0, 0); };
        EDGES.is(32, "n 12, the greatest", 16, x -> { ball.on(x); x.see(12, 1212, 1); return x.fits(); });
        EDGES.is(32, "n 12, it isn't so", 15, x -> { ball.on(x); x.see(12, 1212, 0); return x.fits(); });
        EDGES.is(32, "n -12, the least", 16, x -> { ball.on(x); x.see(-12, 404, 1); return x.fits(); });
        EDGES.is(32, "n -12, it isn't so", 15, x -> { ball.on(x); x.see(-12, 404, 0); return x.fits(); });
        EDGES.is(32, "n 0: as now by all", 31, x -> { ball.on(x); x.see(0, 0, 1); return x.fits(); });
        EDGES.is(32, "n 0: otherwise by none", 0, x -> { ball.on(x); x.see(0, 0, 0); return x.fits(); });
        EDGES.is(32, "n 11 and n 12: each from now", 16, x -> { ball.on(x); x.see(11, 1111, 1); x.see(12, 1212, 1); return x.fits(); });
        EDGES.is(32, "n -12 and n 12: each from now", 16, x -> { ball.on(x); x.see(-12, 404, 1); x.see(12, 1212, 1); return x.fits(); });
        for (int word = 0; word < 5; word++) {
            int own = word;
            EDGES.is(32, "n 12, whatever the RULE now is, " + word, 16, x -> { ball.on(x); x.rule(own); x.see(12, 1212, 1); return x.fits(); });
        }
        EDGES.is(32, "n 12, whatever the RULE now is, by exchanges", 16, x -> { ball.on(x); x.change(0, 15); x.see(12, 1212, 1); return x.fits(); });
        EDGES.is(32, "n -1, the last corner", 16 + 8, x -> { ball.on(x); x.see(-1, 1515, 1); return x.fits(); });
        EDGES.is(32, "word 0 is bit 0", 1, x -> { ball.on(x); x.see(1, 0, 1); return x.fits(); });
        EDGES.is(32, "word 4 is bit 4", 16, x -> { ball.on(x); x.see(1, 101, 1); x.see(1, 100, 0); return x.fits(); });
    }

    private static void fitsCells() {
        EDGES.is(32, "the last CELL is there", 31, x -> { x.size(4, 6); x.see(0, 305, 0); return x.fits(); });
        EDGES.is(32, "x W isn't there", 0, x -> { x.size(4, 6); x.see(0, 400, 0); return x.fits(); });
        EDGES.is(32, "x W isn't there, nor is it 1", 0, x -> { Edges.full(x, 4, 6); x.see(0, 400, 1); return x.fits(); });
        EDGES.is(32, "y H isn't there", 0, x -> { x.size(4, 6); x.see(0, 6, 0); return x.fits(); });
        EDGES.is(32, "y H isn't there, nor is it 1", 0, x -> { Edges.full(x, 4, 6); x.see(0, 6, 1); return x.fits(); });
        EDGES.is(32, "x 15, y 15 of the greatest GRID is there", 31, x -> { x.size(16, 16); x.see(0, 1515, 0); return x.fits(); });
        EDGES.is(32, "x 2, y 2 of the least GRID isn't there", 0, x -> { x.size(2, 2); x.see(0, 202, 0); return x.fits(); });
        EDGES.is(32, "it is there again when the GRID is greater", 31, x -> { x.size(2, 2); x.see(0, 1515, 0); x.size(16, 16); return x.fits(); });
        EDGES.is(32, "the last of five rows isn't there", 0, x -> { x.size(2, 2); rows(x, 4); x.see(0, 1515, 0); return x.fits(); });
    }

    private static void fitsTimes() {
        for (int time : new int[] {-9999, -1, 9999}) {
            Edges.Ahead ball = x -> { x.size(16, 16); Edges.toTime(x, time); x.toggle(0, 0); };
            EDGES.leaves(32, "from TIME " + time + " by PHASE 1, 12 STEPS", 16, x -> { ball.on(x); x.see(12, 404, 1); }, x -> x.fits());
            EDGES.leaves(32, "from TIME " + time + " by PHASE 0, 12 BACK", 16, x -> { ball.on(x); x.see(-12, 1212, 1); }, x -> x.fits());
        }
        EDGES.leaves(32, "from TIME 9998 12 STEPS", 16, x -> { x.size(16, 16); Edges.toTime(x, 9998); x.toggle(0, 0); x.see(12, 1212, 1); }, x -> x.fits());
        EDGES.is(32, "n STEPS from now, not from when it came", 16, x -> { x.size(16, 16); x.toggle(0, 0); x.steps(2); x.see(2, 404, 1); return x.fits(); });
    }

    private static void eventRefused() {
        for (int what : new int[] {MIN, -2, 3, MAX}) {
            EDGES.leaves(33, "what " + what + " is NONE", NONE, x -> x.event(what, 0));
            EDGES.leaves(33, "what " + what + " with a wrong n: NONE goes ahead of BAD", NONE, x -> x.event(what, MIN));
        }
        for (int n : new int[] {MIN, -1, 5, MAX}) EDGES.leaves(33, "word " + n + " is BAD", BAD, x -> x.event(0, n));
        for (int n : new int[] {MIN, -1, 21, MAX}) EDGES.leaves(33, n + " STEPS are BAD", BAD, x -> x.event(1, n));
        for (int n : new int[] {MIN, -305, -101, -100, -1, 6, 99, 306, 400, 405, 1515, MAX}) {
            EDGES.leaves(33, "no CELL " + n + " of 4 by 6 is BAD", BAD, x -> x.event(2, n));
        }
        EDGES.leaves(33, "no CELL 1516 of 16 by 16", BAD, x -> x.size(16, 16), x -> x.event(2, 1516));
        EDGES.leaves(33, "no CELL 1600 of 16 by 16", BAD, x -> x.size(16, 16), x -> x.event(2, 1600));
        EDGES.leaves(33, "no CELL 16 of 16 by 16", BAD, x -> x.size(16, 16), x -> x.event(2, 16));
        EDGES.leaves(33, "no CELL 200 of 2 by 2", BAD, x -> x.size(2, 2), x -> x.event(2, 200));
        EDGES.leaves(33, "no CELL 2 of 2 by 2", BAD, x -> x.size(2, 2), x -> x.event(2, 2));
    }

    private static void eventEnds() {
        for (int n : new int[] {0, 4}) EDGES.is(33, "word " + n + " comes", 1, x -> x.event(0, n));
        for (int n : new int[] {0, 1, 20}) EDGES.is(33, n + " STEPS come", 1, x -> x.event(1, n));
        for (int n : new int[] {0, 5, 300, 305}) EDGES.is(33, "CELL " + n + " of 4 by 6 comes", 1, x -> { x.size(4, 6); return x.event(2, n); });
        EDGES.is(33, "the last CELL of the greatest GRID", 1, x -> { x.size(16, 16); return x.event(2, 1515); });
        EDGES.is(33, "the last CELL of the least GRID", 1, x -> { x.size(2, 2); return x.event(2, 101); });
        EDGES.is(33, "a row comes, but nothing happens yet", 0, x -> { x.event(2, 707); return x.told(4) + x.told(5); });
        EDGES.is(33, "the RULE stays", 0, x -> { x.event(0, 0); return x.rule(4); });
        EDGES.is(33, "TIME stays", 10000, x -> { x.event(1, 20); return x.told(2); });
    }

    private static void events(BlockCells x, int n) {
        for (int i = 0; i < n; i++) x.event(1, 0);
    }

    private static void eventFull() {
        EDGES.is(33, "the seventh", 7, x -> { events(x, 6); return x.event(2, 0); });
        EDGES.is(33, "the eighth, the last", 8, x -> { events(x, 7); return x.event(2, 0); });
        for (int what = 0; what < 3; what++) {
            int each = what;
            EDGES.leaves(33, "the ninth is FULL, what " + what, FULL, x -> events(x, 8), x -> x.event(each, 0));
        }
        EDGES.leaves(33, "the ninth is FULL, beside all else", FULL, x -> { Edges.rich(x); events(x, 4); }, x -> x.event(2, 305));
        EDGES.leaves(33, "full: what 3, NONE goes ahead", NONE, x -> events(x, 8), x -> x.event(3, 0));
        EDGES.leaves(33, "full: what -2, NONE goes ahead", NONE, x -> events(x, 8), x -> x.event(-2, 0));
        EDGES.leaves(33, "full: word 5, BAD goes ahead", BAD, x -> events(x, 8), x -> x.event(0, 5));
        EDGES.leaves(33, "full: 21 STEPS, BAD goes ahead", BAD, x -> events(x, 8), x -> x.event(1, 21));
        EDGES.leaves(33, "full: no CELL, BAD goes ahead", BAD, x -> events(x, 8), x -> x.event(2, 800));
        EDGES.is(33, "FULL: eight as before", 8, x -> { events(x, 10); return x.count(1); });
    }

    private static void eventNone() {
        EDGES.leaves(33, "what -1, there is none", 0, x -> { }, x -> x.event(-1, 0));
        for (int n : new int[] {MIN, -1, 0, 5, 21, 1516, MAX}) {
            EDGES.is(33, "what -1, n " + n + ": whatever it is", 0, x -> { events(x, 8); return x.event(-1, n); });
            EDGES.is(33, "what -1, n " + n + ": none then", 0, x -> { events(x, 8); x.event(-1, n); return x.count(1); });
        }
        EDGES.is(33, "what -1, full: anew from 1", 1, x -> { events(x, 8); x.event(-1, 0); return x.event(1, 1); });
        EDGES.is(33, "what -1, full: nothing happens then", 0, x -> { for (int i = 0; i < 8; i++) x.event(2, i); x.event(-1, 0); return x.after(0); });
        EDGES.is(33, "what -1 leaves SEEN", 1, x -> { x.see(0, 0, 0); x.event(-1, 0); return x.count(0); });
    }

    private static void afterRefused() {
        for (int what : new int[] {MIN, -1, 2, MAX}) EDGES.leaves(34, "what " + what + " is NONE", NONE, x -> x.after(what));
        EDGES.leaves(34, "what 2, no EVENTS", NONE, x -> { }, x -> x.after(2));
    }

    private static void afterEnds() {
        EDGES.leaves(34, "no EVENTS, an empty GRID: COUNT", 0, x -> { }, x -> x.after(0));
        EDGES.leaves(34, "no EVENTS, an empty GRID: THINGS", 0, x -> { }, x -> x.after(1));
        EDGES.leaves(34, "no EVENTS, a full GRID: COUNT", 256, x -> Edges.full(x, 16, 16), x -> x.after(0));
        EDGES.leaves(34, "no EVENTS, a full GRID: THINGS", 1, x -> Edges.full(x, 16, 16), x -> x.after(1));
        EDGES.is(34, "0 STEPS by flip", 0, x -> { x.rule(3); x.event(1, 0); return x.after(0); });
        EDGES.is(34, "1 STEP by flip", 64, x -> { x.rule(3); x.event(1, 1); return x.after(0); });
        EDGES.is(34, "20 STEPS by ball: it is four on", 0, x -> { x.size(16, 16); x.toggle(0, 0); x.event(1, 20); x.event(2, 404); return x.after(0); });
        EDGES.is(34, "20 STEPS by flip", 0, x -> { x.rule(3); x.event(1, 20); return x.after(0); });
        EDGES.is(34, "19 STEPS by flip", 64, x -> { x.rule(3); x.event(1, 19); return x.after(0); });
        EDGES.is(34, "word 0, the least", 0, x -> { x.rule(3); x.event(0, 0); x.event(1, 1); return x.after(0); });
        EDGES.is(34, "word 4, the greatest", 0, x -> { x.rule(3); x.event(0, 4); x.event(1, 1); return x.after(0); });
        EDGES.is(34, "word 3 and no STEP", 0, x -> { x.event(0, 3); return x.after(0); });
        EDGES.is(34, "a CELL to 1", 1, x -> { x.event(2, 0); return x.after(0); });
        EDGES.is(34, "a CELL to 0", 0, x -> { x.toggle(0, 0); x.event(2, 0); return x.after(0); });
        EDGES.is(34, "the last CELL of a full GRID", 255, x -> { Edges.full(x, 16, 16); x.event(2, 1515); return x.after(0); });
        EDGES.is(34, "what comes behind: the GRID as it is then", 2, x -> { x.event(2, 0); x.toggle(7, 7); return x.after(0); });
    }

    private static void afterFull() {
        EDGES.is(34, "eight rows: each CELL", 8, x -> { for (int i = 0; i < 8; i++) x.event(2, 100 * i); return x.after(0); });
        EDGES.is(34, "eight rows: the eighth STEP, too", 0, x -> { x.rule(3); for (int i = 0; i < 8; i++) x.event(1, 1); return x.after(0); });
        EDGES.is(34, "seven rows of a STEP", 64, x -> { x.rule(3); for (int i = 0; i < 7; i++) x.event(1, 1); return x.after(0); });
        EDGES.is(34, "eight times 20 STEPS", 0, x -> {
            x.size(14, 14);
            x.toggle(0, 0);
            for (int i = 0; i < 7; i++) x.event(1, 20);
            x.event(2, 0);
            return x.after(0);
        });
        EDGES.leaves(34, "full: what is asked changes nothing", 64, x -> { x.rule(3); for (int i = 0; i < 7; i++) x.event(1, 1); x.event(0, 0); }, x -> x.after(0));
        EDGES.leaves(34, "full: THINGS", 1, x -> { x.rule(3); for (int i = 0; i < 7; i++) x.event(1, 1); x.event(0, 0); }, x -> x.after(1));
    }

    private static void afterGone() {
        EDGES.leaves(34, "x of a CELL is no more", 0, x -> { x.event(2, 700); x.size(4, 8); }, x -> x.after(0));
        EDGES.leaves(34, "y of a CELL is no more", 0, x -> { x.event(2, 7); x.size(8, 4); }, x -> x.after(0));
        EDGES.is(34, "x just beyond W is no more", 0, x -> { x.event(2, 400); x.size(4, 8); return x.after(0); });
        EDGES.is(34, "y just beyond H is no more", 0, x -> { x.event(2, 4); x.size(8, 4); return x.after(0); });
        EDGES.is(34, "the last CELL is still there", 1, x -> { x.event(2, 303); x.size(4, 4); return x.after(0); });
        EDGES.is(34, "the others happen all the same", 1, x -> { x.event(2, 707); x.event(2, 0); x.size(2, 2); return x.after(0); });
        EDGES.is(34, "it is there again", 1, x -> { x.event(2, 707); x.size(2, 2); x.size(8, 8); return x.after(0); });
        EDGES.is(34, "nothing happens: THINGS", 0, x -> { x.event(2, 707); x.size(2, 2); return x.after(1); });
    }

    private static void afterRound() {
        EDGES.is(34, "four corners: THINGS", 1, x -> { x.event(2, 0); x.event(2, 700); x.event(2, 7); x.event(2, 707); return x.after(1); });
        EDGES.is(34, "four corners: COUNT", 4, x -> { x.event(2, 0); x.event(2, 700); x.event(2, 7); x.event(2, 707); return x.after(0); });
        EDGES.is(34, "a STEP by PHASE 1, closed round", 0, x -> { x.steps(1); x.toggle(0, 0); x.event(1, 1); x.event(2, 707); return x.after(0); });
        EDGES.is(34, "a STEP and a STEP, closed round", 0, x -> { x.toggle(7, 7); x.event(1, 1); x.event(1, 1); x.event(2, 505); return x.after(0); });
    }

    private static void afterTimes() {
        for (int time : new int[] {-9999, -1, 9999}) {
            EDGES.leaves(34, "from TIME " + time + " by PHASE 1, 20 STEPS", 0, x -> {
                x.size(16, 16);
                Edges.toTime(x, time);
                x.toggle(0, 0);
                x.event(1, 20);
                x.event(2, 1212);
            }, x -> x.after(0));
        }
        EDGES.leaves(34, "from TIME 9998, 2 STEPS", 0, x -> { Edges.toTime(x, 9998); x.toggle(0, 0); x.event(1, 2); x.event(2, 202); }, x -> x.after(0));
    }

    private static void image() {
        EDGES.is(35, "an empty GRID: COUNT", 0, x -> x.image());
        EDGES.is(35, "a full GRID: COUNT", 256, x -> { Edges.full(x, 16, 16); return x.image(); });
        EDGES.is(35, "once more: COUNT", 1, x -> { x.image(); x.toggle(0, 0); return x.image(); });
        EDGES.is(35, "once more: the newer one", 1, x -> { x.image(); x.toggle(0, 0); x.image(); x.size(2, 2); return x.back(); });
        EDGES.is(35, "12 CHANGES stay", 12, x -> { Edges.changes(x, 12); x.image(); return x.told(5); });
        EDGES.is(35, "TIME stays", 1, x -> { Edges.toTime(x, -9999); x.image(); return x.told(2); });
        EDGES.is(35, "SEEN stay", 5, x -> { rows(x, 5); x.image(); return x.count(0); });
        EDGES.is(35, "EVENTS stay", 8, x -> { events(x, 8); x.image(); return x.count(1); });
        EDGES.leaves(35, "the same one once more", 1, x -> { x.toggle(0, 0); x.image(); }, x -> x.image());
    }

    private static void backRefused() {
        EDGES.leaves(36, "there is none: STATE", STATE, x -> { }, x -> x.back());
        EDGES.leaves(36, "there is none, beside some of all else", STATE, x -> {
            Edges.changes(x, 12);
            rows(x, 5);
            events(x, 8);
            x.spell();
            x.list(0, 20);
            Check.feed(x, "#./.#");
        }, x -> x.back());
    }

    private static void backGrids() {
        int[][] sides = {{2, 2}, {2, 16}, {16, 2}, {16, 16}};
        for (int[] s : sides) {
            String name = s[0] + " by " + s[1];
            EDGES.is(36, name + " full: COUNT", s[0] * s[1], x -> { Edges.full(x, s[0], s[1]); x.image(); x.size(8, 8); return x.back(); });
            EDGES.is(36, name + ": W and H", 100 * s[0] + s[1], x -> { x.size(s[0], s[1]); x.image(); x.size(8, 8); x.back(); return x.size(8, 8); });
            EDGES.is(36, name + " empty over a full GRID", 0, x -> { x.size(s[0], s[1]); x.image(); Edges.full(x, 16, 16); x.back(); return x.told(4); });
            EDGES.is(36, name + " empty over a full GRID, no CELL beyond comes again", 0, x -> {
                x.size(s[0], s[1]);
                x.image();
                Edges.full(x, 16, 16);
                x.back();
                x.size(16, 16);
                return x.told(4);
            });
            EDGES.is(36, name + ": the last CELL", 1, x -> { x.size(s[0], s[1]); x.toggle(s[0] - 1, s[1] - 1); x.image(); x.size(8, 8); x.back(); return x.cell(s[0] - 1, s[1] - 1); });
        }
        EDGES.is(36, "twice", 1, x -> { x.toggle(0, 0); x.image(); x.back(); x.toggle(1, 1); return x.back(); });
        EDGES.is(36, "THE IMAGE isn't changed by what comes behind", 0, x -> { x.image(); x.back(); x.toggle(7, 7); x.back(); return x.cell(7, 7); });
    }

    private static void backTimes() {
        for (int time : new int[] {-9999, -1, 0, 9999}) {
            EDGES.is(36, "TIME " + time, 10000 + time, x -> { Edges.toTime(x, time); x.image(); x.size(8, 8); x.steps(2); x.back(); return x.told(2); });
            EDGES.is(36, "PHASE of TIME " + time, time % 2 == 0 ? 0 : 1, x -> { Edges.toTime(x, time); x.image(); x.size(8, 8); x.steps(2); x.back(); return x.told(3); });
        }
        EDGES.is(36, "at TIME 9999 no STEP goes on", STATE, x -> { Edges.toTime(x, 9999); x.image(); x.size(8, 8); x.back(); return x.steps(1); });
        EDGES.is(36, "CHANGES of the same TIME are gone", STATE, x -> { x.toggle(0, 0); x.image(); x.back(); return x.undo(); });
        EDGES.is(36, "12 CHANGES: none can be UNDONE", 0, x -> { x.image(); Edges.changes(x, 12); x.back(); return x.told(5); });
    }

    private static void backTables() {
        EDGES.is(36, "no SEEN over five", 0, x -> { x.image(); rows(x, 5); x.back(); return x.count(0); });
        EDGES.is(36, "five SEEN over none", 5, x -> { rows(x, 5); x.image(); x.see(0, 0, -1); x.back(); return x.count(0); });
        EDGES.is(36, "five SEEN: the last one", 8, x -> { rows(x, 4); x.see(1, 0, 1); x.image(); x.see(0, 0, -1); rows(x, 5); x.back(); return x.fits(); });
        EDGES.is(36, "five SEEN: full", FULL, x -> { rows(x, 5); x.image(); x.see(0, 0, -1); x.back(); return x.see(0, 0, 0); });
        EDGES.is(36, "no EVENTS over eight", 0, x -> { x.image(); events(x, 8); x.back(); return x.count(1); });
        EDGES.is(36, "eight EVENTS over none", 8, x -> { events(x, 8); x.image(); x.event(-1, 0); x.back(); return x.count(1); });
        EDGES.is(36, "eight EVENTS: the last one", 1, x -> { events(x, 7); x.event(2, 0); x.image(); x.event(-1, 0); events(x, 8); x.back(); return x.after(0); });
        EDGES.is(36, "eight EVENTS: full", FULL, x -> { events(x, 8); x.image(); x.event(-1, 0); x.back(); return x.event(1, 0); });
        for (int s : new int[] {0, 15}) {
            EDGES.is(36, "what STATE " + s + " becomes", 15 - s, x -> { x.change(0, 15); x.image(); x.rule(4); x.back(); return x.becomes(s, false); });
            EDGES.is(36, "what becomes STATE " + s, 15 - s, x -> { x.change(0, 15); x.image(); x.rule(4); x.back(); return x.becomes(s, true); });
        }
    }

    /** What comes behind back() goes to the object, not to THE IMAGE. */
    private static void backTwice() {
        EDGES.is(36, "SEEN that come behind it are gone the second time", 0, x -> { x.image(); x.back(); rows(x, 5); x.back(); return x.count(0); });
        EDGES.is(36, "SEEN that go behind it come the second time", 5, x -> { rows(x, 5); x.image(); x.back(); x.see(0, 0, -1); x.back(); return x.count(0); });
        EDGES.is(36, "EVENTS that come behind it are gone the second time", 0, x -> { x.image(); x.back(); events(x, 8); x.back(); return x.count(1); });
        EDGES.is(36, "EVENTS that go behind it come the second time", 8, x -> { events(x, 8); x.image(); x.back(); x.event(-1, 0); x.back(); return x.count(1); });
        EDGES.is(36, "a RULE that comes behind it is gone the second time", 0, x -> { x.image(); x.back(); x.change(0, 15); x.back(); return x.rule(4); });
        EDGES.is(36, "a TIME that comes behind it is gone the second time", 1, x -> { Edges.toTime(x, -9999); x.image(); x.back(); x.steps(200); x.back(); return x.told(2); });
        EDGES.is(36, "sides that come behind it are gone the second time", 1602, x -> { x.size(16, 2); x.image(); x.back(); x.size(2, 16); x.back(); return x.size(8, 8); });
        EDGES.is(36, "CELLS of the second time", 256, x -> { Edges.full(x, 16, 16); x.image(); x.back(); x.size(2, 2); return x.back(); });
    }

    private static void backStays() {
        EDGES.is(36, "the full TAPE stays", 300, x -> { x.image(); for (int i = 0; i < 300; i++) x.feed('.'); x.back(); return x.count(2); });
        EDGES.is(36, "the empty TAPE stays", 0, x -> { x.feed('.'); x.image(); x.read(); x.back(); return x.count(2); });
        EDGES.is(36, "THE PAPER stays", 5, x -> { x.spell(); x.image(); x.size(2, 2); x.spell(); x.back(); return x.count(3); });
        EDGES.is(36, "THE PAPER isn't nothing again", 71, x -> { x.image(); x.spell(); x.back(); return x.count(3); });
        EDGES.is(36, "LISTS stay", 7, x -> { x.image(); x.list(3, 20); x.set(3, 19, 7); x.back(); return x.get(3, 19); });
    }

    private static void countEnds() {
        for (int what : new int[] {MIN, -1, 4, MAX}) EDGES.leaves(37, "what " + what + " is BAD", BAD, x -> x.count(what));
        EDGES.leaves(37, "what 0, the least", 3, x -> x.count(0));
        EDGES.leaves(37, "what 1", 4, x -> x.count(1));
        EDGES.leaves(37, "what 2", 5, x -> x.count(2));
        EDGES.leaves(37, "what 3, the greatest", 29, x -> x.count(3));
        for (int what = 0; what < 4; what++) {
            int each = what;
            EDGES.leaves(37, "what " + what + ", empty", 0, x -> { }, x -> x.count(each));
        }
    }

    private static void countFull() {
        EDGES.is(37, "SEEN full", 5, x -> { rows(x, 6); return x.count(0); });
        EDGES.is(37, "EVENTS full", 8, x -> { events(x, 9); return x.count(1); });
        EDGES.is(37, "THE TAPE full", 300, x -> { for (int i = 0; i < 301; i++) x.feed('.'); return x.count(2); });
        EDGES.is(37, "THE PAPER, the longest", 271, x -> { x.size(16, 16); x.spell(); return x.count(3); });
        EDGES.is(37, "THE PAPER, the shortest but nothing", 5, x -> { x.size(2, 2); x.spell(); return x.count(3); });
        EDGES.is(37, "SEEN emptied", 0, x -> { rows(x, 5); x.see(0, 0, -1); return x.count(0); });
        EDGES.is(37, "EVENTS emptied", 0, x -> { events(x, 8); x.event(-1, 0); return x.count(1); });
    }
}
