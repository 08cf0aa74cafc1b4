import java.util.HashSet;
import java.util.Set;

/** Boundary cases: each a test of its own, on new objects, told by its promise and its name. */
final class Edges {
    static final int NONE = -1, BAD = -2, STATE = -3, FULL = -4, NEVER = -5, NOTHING = -11, PLACE = -13, SIZE = -14;
    static final int MIN = Integer.MIN_VALUE, MAX = Integer.MAX_VALUE;

    interface Ahead { void on(BlockCells x); }

    interface Call { long on(BlockCells x); }

    private final Set<String> names = new HashSet<>();
    private final Set<String> broken = new HashSet<>();

    /** The last of some calls on a new object answers so. */
    void is(int promise, String edge, long want, Call calls) {
        String name = named(promise, edge);
        due(name, answer(name, new BlockCells(), calls), want);
    }

    /** Behind some calls on a new object the GRID is so. */
    void grid(int promise, String edge, String want, Ahead calls) {
        String name = named(promise, edge);
        BlockCells x = new BlockCells();
        calls.on(x);
        String got = Check.spelled(x);
        if (!got.equals(want)) tell(name, "left " + got + ", due is " + want);
    }

    /** A call on an object that holds something of everything answers so and changes nothing. */
    void leaves(int promise, String edge, long want, Call call) {
        leaves(promise, edge, want, Edges::rich, call);
    }

    /** A call answers so, and all that can be asked then is as without it. */
    void leaves(int promise, String edge, long want, Ahead ahead, Call call) {
        String name = named(promise, edge);
        BlockCells with = new BlockCells();
        ahead.on(with);
        due(name, answer(name, with, call), want);
        BlockCells without = new BlockCells();
        ahead.on(without);
        String got = all(with);
        String as = all(without);
        if (!got.equals(as)) tell(name, "left\n  " + got + "\ninstead of\n  " + as);
    }

    void end() {
        System.out.println(names.size() - broken.size() + " edges hold, " + broken.size() + " don't");
        if (!broken.isEmpty()) System.exit(1);
    }

    private String named(int promise, String edge) {
        String name = "promise " + promise + ": " + edge;
        if (!names.add(name)) throw new IllegalStateException("two edges are named " + name);
        return name;
    }

    private long answer(String name, BlockCells x, Call call) {
        try {
            return call.on(x);
        } catch (RuntimeException e) {
            tell(name, "threw " + e);
            return 0;
        }
    }

    private void due(String name, long got, long want) {
        if (got != want) tell(name, "answered " + got + ", due is " + want);
    }

    private void tell(String name, String what) {
        broken.add(name);
        System.out.println(name + ": " + what);
    }

    // ---- objects to ask

    /** Something of everything: 4 by 6 at TIME -3, and THE IMAGE is of TIME 5; LIST 1 is nothing, LIST 2 a row of none. */
    static void rich(BlockCells x) {
        richButTape(x);
        Check.feed(x, "#./.#");
    }

    static void richButTape(BlockCells x) {
        Check.read(x, "#..#/.#../..../..##/..../#...");
        x.rule(1);
        x.change(3, 12);
        x.steps(5);
        x.see(2, 305, 0);
        x.event(1, 3);
        x.event(2, 100);
        x.image();
        x.rule(4);
        x.change(0, 6);
        x.steps(-8);
        x.toggle(0, 0);
        x.toggle(3, 5);
        x.toggle(2, 1);
        x.see(0, 305, x.cell(3, 5));
        x.see(1, 200, x.then(2, 0, 1));
        x.event(0, 2);
        x.event(1, 2);
        x.list(0, 8);
        x.lay(0, 1);
        x.set(0, 7, Long.MAX_VALUE);
        x.list(2, 0);
        x.list(3, 20);
        x.set(3, 19, -1);
        x.spell();
    }

    /** All CELLS 1, TIME 0, the RULE ball. */
    static void full(BlockCells x, int w, int h) {
        x.size(w, h);
        x.rule(3);
        x.steps(1);
        x.rule(0);
        x.steps(-1);
        x.rule(4);
    }

    /** 16 by 16, 64 CELLS, none a neighbour of another one; LIST 0 has the rows. */
    static void apart(BlockCells x) {
        x.size(16, 16);
        x.list(0, 16);
        for (int y = 0; y < 16; y += 2) x.set(0, y, 0x5555);
        x.load(0, 0);
    }

    /** By the RULE same, so that the CELLS stay; then the RULE ball. */
    static void toTime(BlockCells x, int time) {
        x.rule(0);
        for (int now = x.told(2) - 10000; now != time; now = x.told(2) - 10000) {
            if (x.steps(Math.max(-200, Math.min(200, time - now))) < 0) throw new IllegalStateException("no TIME " + time);
        }
        x.rule(4);
    }

    /** n CHANGES of CELLS 0, 0 and 1, 0 and so on, row by row of 8. */
    static void changes(BlockCells x, int n) {
        for (int i = 0; i < n; i++) x.toggle(i % 8, i / 8);
    }

    // ---- all that can be asked

    /** As one text. It uses the object up: its CHANGES are UNDONE, its TAPE is read, its IMAGE laid back. */
    static String all(BlockCells x) {
        StringBuilder text = new StringBuilder();
        for (int what = 0; what < 4; what++) text.append(x.count(what)).append(' ');
        int paper = Math.min(x.count(3), 30);
        for (int i = 0; i < paper; i++) text.append((char) x.paper(i));
        lists(text, x);
        text.append("\n  back");
        for (int state = 0; state < 16; state++) text.append(' ').append(x.becomes(state, true));
        now(text, x);
        undone(text, x);
        text.append("\n  read ").append(x.read());
        now(text, x);
        text.append("\n  image ").append(x.back());
        now(text, x);
        return text.toString();
    }

    private static void lists(StringBuilder text, BlockCells x) {
        for (int list = 0; list < 4; list++) {
            text.append("\n  list ").append(x.set(list, -1, 0));
            for (int i = 0; i < 20; i++) {
                long v = x.get(list, i);
                if (v == Long.MIN_VALUE) break;
                text.append(' ').append(v);
            }
        }
    }

    private static void now(StringBuilder text, BlockCells x) {
        text.append("\n  now");
        for (int what = 0; what < 8; what++) text.append(' ').append(x.told(what));
        text.append(" rule");
        for (int state = 0; state < 16; state++) text.append(' ').append(x.becomes(state, false));
        text.append(" seen ").append(x.fits()).append(" after ").append(x.after(0)).append(' ').append(x.after(1));
        text.append(" rows");
        x.list(3, 16);
        x.lay(3, 0);
        int rows = x.told(1);
        for (int y = 0; y < rows; y++) text.append(' ').append(x.get(3, y));
    }

    private static void undone(StringBuilder text, BlockCells x) {
        text.append("\n  undone");
        for (int i = 0; i < 13; i++) {
            int cell = x.undo();
            text.append(' ').append(cell);
            if (cell == STATE) break;
        }
    }
}
