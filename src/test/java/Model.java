import java.util.ArrayList;
import java.util.Arrays;
import java.util.HashSet;
import java.util.List;
import java.util.Set;
import java.util.TreeSet;

/** The document told a second time, in other ways than the class: for comparing answers only. */
final class Model {
    private int w = 8, h = 8, time = 0;
    private String cells = ".".repeat(64);
    private int[] rule = byWord(4);
    private List<int[]> changes = new ArrayList<>();
    private List<int[]> seen = new ArrayList<>();
    private List<int[]> events = new ArrayList<>();
    private String tape = "";
    private String paper = "";
    private final long[][] lists = new long[4][];
    private Model image = null;

    // ---- the grid

    int size(int width, int height) {
        Set<Integer> sides = Set.of(2, 4, 6, 8, 10, 12, 14, 16);
        if (!sides.contains(width) || !sides.contains(height)) return -2;
        int before = w * 100 + h;
        w = width;
        h = height;
        cells = ".".repeat(w * h);
        time = 0;
        changes.clear();
        return before;
    }

    private boolean isCell(int x, int y) {
        return 0 <= x && x < w && 0 <= y && y < h;
    }

    private int mod(int a, int b) {
        return ((a % b) + b) % b;
    }

    private int bit(String grid, int x, int y) {
        return grid.charAt(mod(y, h) * w + mod(x, w)) == '#' ? 1 : 0;
    }

    private String other(String grid, int x, int y) {
        char[] signs = grid.toCharArray();
        signs[y * w + x] = signs[y * w + x] == '#' ? '.' : '#';
        return new String(signs);
    }

    int toggle(int x, int y) {
        if (!isCell(x, y)) return -1;
        cells = other(cells, x, y);
        changes.add(new int[] {x, y, time});
        if (changes.size() > 12) changes.remove(0);
        return bit(cells, x, y);
    }

    int undo() {
        if (changes.isEmpty()) return -3;
        int[] last = changes.get(changes.size() - 1);
        if (last[2] != time) return -3;
        changes.remove(changes.size() - 1);
        cells = other(cells, last[0], last[1]);
        return 100 * last[0] + last[1];
    }

    int cell(int x, int y) {
        return isCell(x, y) ? bit(cells, x, y) : -1;
    }

    int told(int what) {
        if (what == 0) return w;
        if (what == 1) return h;
        if (what == 2) return 10000 + time;
        if (what == 3) return time % 2 == 0 ? 0 : 1;
        if (what == 4) return ones(cells);
        if (what == 5) {
            int last = changes.size();
            while (last > 0 && changes.get(last - 1)[2] == time) last--;
            return changes.size() - last;
        }
        if (what == 6) return things(cells).size();
        if (what == 7) return shapes().size();
        return -1;
    }

    private int ones(String grid) {
        return grid.replace(".", "").length();
    }

    // ---- rules, steps

    private static int[] byWord(int word) {
        int[] becomes = new int[16];
        for (int s = 0; s < 16; s++) {
            int ul = s & 1, ur = s / 2 & 1, ll = s / 4 & 1, lr = s / 8 & 1;
            int many = ul + ur + ll + lr;
            int to = s;
            if (word == 1) to = ll + 2 * ul + 4 * lr + 8 * ur;
            if (word == 2) to = ur + 2 * lr + 4 * ul + 8 * ll;
            if (word == 3) to = (1 - ul) + 2 * (1 - ur) + 4 * (1 - ll) + 8 * (1 - lr);
            if (word == 4 && many == 1) to = lr + 2 * ll + 4 * ur + 8 * ul;
            if (word == 4 && many == 2 && ul == lr) to = ur + 2 * ul + 4 * lr + 8 * ll;
            becomes[s] = to;
        }
        return becomes;
    }

    private static int indexOf(int[] becomes, int state) {
        for (int s = 0; s < 16; s++) if (becomes[s] == state) return s;
        throw new IllegalStateException("no rule");
    }

    int rule(int word) {
        if (word < 0 || word > 4) return -1;
        int[] before = rule;
        rule = byWord(word);
        return Arrays.equals(before, rule) ? 0 : 1;
    }

    int change(int i, int j) {
        if (i < 0 || i > 15 || j < 0 || j > 15 || i == j) return -1;
        rule = rule.clone();
        int kept = rule[i];
        rule[i] = rule[j];
        rule[j] = kept;
        return rule[i];
    }

    int becomes(int state, boolean back) {
        if (state < 0 || state > 15) return -1;
        return back ? indexOf(rule, state) : rule[state];
    }

    /** The upper left cell's column (or row) of the block of a phase that a column (or row) is in. */
    private int blockStart(int x, int phase, int length) {
        return mod(x, 2) == phase ? x : mod(x - 1, length);
    }

    private int state(String grid, int x, int y, int phase) {
        int l = blockStart(x, phase, w), t = blockStart(y, phase, h);
        return bit(grid, l, t) + 2 * bit(grid, l + 1, t) + 4 * bit(grid, l, t + 1) + 8 * bit(grid, l + 1, t + 1);
    }

    /** Each cell by itself: the bit that its block's next state has in its corner. */
    private String turned(String grid, int phase, int[] becomes, boolean back) {
        StringBuilder next = new StringBuilder();
        for (int y = 0; y < h; y++) {
            for (int x = 0; x < w; x++) {
                int state = state(grid, x, y, phase);
                int to = back ? indexOf(becomes, state) : becomes[state];
                int corner = (mod(x, 2) == phase ? 0 : 1) + (mod(y, 2) == phase ? 0 : 2);
                next.append((to >> corner & 1) == 1 ? '#' : '.');
            }
        }
        return next.toString();
    }

    private String gone(String grid, int from, int n, int[] becomes) {
        for (int i = 0; i < n; i++) grid = turned(grid, mod(from + i, 2), becomes, false);
        for (int i = 0; i < -n; i++) grid = turned(grid, mod(from - i - 1, 2), becomes, true);
        return grid;
    }

    int steps(int n) {
        if (n < -200 || n > 200) return -2;
        if (Math.abs(time + n) > 9999) return -3;
        cells = gone(cells, time, n, rule);
        time += n;
        return 10000 + time;
    }

    int block(int x, int y) {
        return isCell(x, y) ? state(cells, x, y, mod(time, 2)) : -1;
    }

    // ---- in thought

    int then(int x, int y, int n) {
        if (!isCell(x, y)) return -1;
        if (Math.abs((long) n) > 60) return -2;
        return bit(gone(cells, time, n, rule), x, y);
    }

    private boolean areWeights(int... weights) {
        for (int v : weights) if (v > 9 || v < -9) return false;
        return true;
    }

    int sum(int a, int b, int c, int d) {
        if (!areWeights(a, b, c, d)) return -2;
        return 1000000 + sumOf(cells, a, b, c, d);
    }

    private int sumOf(String grid, int a, int b, int c, int d) {
        int[] weights = {a, b, c, d};
        int sum = 0;
        for (int y = 0; y < h; y++) {
            for (int x = 0; x < w; x++) sum += bit(grid, x, y) * weights[x % 2 + 2 * (y % 2)];
        }
        return sum;
    }

    /** By a grid of four by four with one block of each state, as its sum is ahead and behind. */
    int kept(int a, int b, int c, int d) {
        if (!areWeights(a, b, c, d)) return -2;
        Model one = new Model();
        one.size(4, 4);
        for (int phase = 0; phase < 2; phase++) {
            for (int s = 0; s < 16; s++) {
                if (one.sumOf(one.withBlock(phase, s), a, b, c, d) != one.sumOf(one.withBlock(phase, rule[s]), a, b, c, d)) return 0;
            }
        }
        return 1;
    }

    private String withBlock(int phase, int s) {
        String grid = ".".repeat(16);
        for (int corner = 0; corner < 4; corner++) {
            if ((s >> corner & 1) == 1) grid = other(grid, phase + corner % 2, phase + corner / 2);
        }
        return grid;
    }

    int again() {
        String grid = cells;
        for (int n = 2; n <= 128; n += 2) {
            grid = gone(grid, time, 2, rule);
            if (grid.equals(cells)) return n;
        }
        return -5;
    }

    private String shifted(String grid, int dx, int dy) {
        char[] signs = new char[w * h];
        for (int y = 0; y < h; y++) {
            for (int x = 0; x < w; x++) signs[(y + dy) % h * w + (x + dx) % w] = grid.charAt(y * w + x);
        }
        return new String(signs);
    }

    int moved(int what) {
        if (what < 0 || what > 2) return -1;
        List<String> shifts = new ArrayList<>();
        for (int dy = 0; dy < h; dy += 2) {
            for (int dx = 0; dx < w; dx += 2) shifts.add(shifted(cells, dx, dy));
        }
        shifts.set(0, "itself");
        String grid = cells;
        for (int n = 2; n <= 64; n += 2) {
            grid = gone(grid, time, 2, rule);
            int i = shifts.indexOf(grid);
            if (i >= 0) return new int[] {n, i % (w / 2) * 2, i / (w / 2) * 2}[what];
        }
        return -5;
    }

    int unlike(int n) {
        if (n < 0 || n > 64) return -2;
        Set<String> grids = new HashSet<>();
        String grid = cells;
        grids.add(grid);
        for (int i = 0; i < n; i++) {
            grid = turned(grid, mod(time + i, 2), rule, false);
            grids.add(grid);
        }
        return grids.size();
    }

    // ---- things

    /** Cells as places y * w + x. All cells begin as things of their own and take the least neighbour's name. */
    private List<List<Integer>> things(String grid) {
        int[] names = new int[w * h];
        for (int i = 0; i < names.length; i++) names[i] = i;
        boolean isNew = true;
        while (isNew) {
            isNew = false;
            for (int i = 0; i < names.length; i++) {
                for (int k = 0; k < 9; k++) {
                    int j = mod(i / w + k / 3 - 1, h) * w + mod(i % w + k % 3 - 1, w);
                    if (grid.charAt(i) == '#' && grid.charAt(j) == '#' && names[j] < names[i]) {
                        names[i] = names[j];
                        isNew = true;
                    }
                }
            }
        }
        List<List<Integer>> things = new ArrayList<>();
        for (int first = 0; first < names.length; first++) {
            List<Integer> thing = new ArrayList<>();
            for (int i = 0; i < names.length; i++) if (grid.charAt(i) == '#' && names[i] == first) thing.add(i);
            if (!thing.isEmpty()) things.add(thing);
        }
        return things;
    }

    private String shapeOf(List<Integer> thing) {
        int first = thing.get(0);
        TreeSet<Integer> offsets = new TreeSet<>();
        for (int i : thing) offsets.add(mod(i / w - first / w, h) * 100 + mod(i % w - first % w, w));
        return offsets.toString();
    }

    private List<String> shapes() {
        List<String> shapes = new ArrayList<>();
        for (List<Integer> thing : things(cells)) {
            if (!shapes.contains(shapeOf(thing))) shapes.add(shapeOf(thing));
        }
        return shapes;
    }

    private int placeOf(int i) {
        return i % w * 100 + i / w;
    }

    int thing(int k, int what) {
        List<List<Integer>> things = things(cells);
        if (k < 0 || k >= things.size() || what < 0 || what > 2) return -1;
        List<Integer> thing = things.get(k);
        if (what == 0) return thing.size();
        if (what == 1) return placeOf(thing.get(0));
        return shapes().indexOf(shapeOf(thing));
    }

    int thingAt(int x, int y) {
        if (!isCell(x, y)) return -1;
        List<List<Integer>> things = things(cells);
        for (int k = 0; k < things.size(); k++) if (things.get(k).contains(y * w + x)) return k;
        return -5;
    }

    int shape(int k, int what) {
        List<String> shapes = shapes();
        if (k < 0 || k >= shapes.size() || what < 0 || what > 2) return -1;
        List<List<Integer>> having = new ArrayList<>();
        for (List<Integer> thing : things(cells)) if (shapeOf(thing).equals(shapes.get(k))) having.add(thing);
        if (what == 0) return having.size();
        return what == 1 ? having.get(0).size() : placeOf(having.get(0).get(0));
    }

    // ---- texts, rows

    int feed(int letter) {
        if (letter < 1 || letter > 127) return -2;
        if (tape.length() == 300) return -4;
        tape += (char) letter;
        return tape.length();
    }

    /** Whether the first n signs of the tape begin a text of a grid with these sides. */
    private boolean begins(int n, int width, int height) {
        if (n > (width + 1) * height - 1) return false;
        for (int i = 0; i < n; i++) {
            boolean isEnd = i % (width + 1) == width;
            char sign = tape.charAt(i);
            if (isEnd ? sign != '/' : sign != '.' && sign != '#') return false;
        }
        return true;
    }

    /** The fault, or 100 width and height. */
    private int fault() {
        for (int n = 1; n <= tape.length(); n++) {
            if (sides(n, false) == 0) return -100 - (n - 1);
        }
        int whole = sides(tape.length(), true);
        return whole == 0 ? -100 - tape.length() : whole;
    }

    /** 100 width and height of a grid whose text begins so (or ends so, too); 0: there is none. */
    private int sides(int n, boolean ends) {
        for (int width = 1; width <= 16; width++) {
            for (int height = 1; height <= 16; height++) {
                if (ends && n != (width + 1) * height - 1) continue;
                if (begins(n, width, height)) return 100 * width + height;
            }
        }
        return 0;
    }

    int read() {
        int found = fault();
        String text = tape;
        tape = "";
        if (found < 0) return found;
        int width = found / 100, height = found % 100;
        if (width % 2 == 1 || height % 2 == 1) return -500;
        w = width;
        h = height;
        cells = text.replace("/", "");
        changes.clear();
        return ones(cells);
    }

    int spell() {
        StringBuilder text = new StringBuilder();
        for (int y = 0; y < h; y++) text.append(y == 0 ? "" : "/").append(cells, y * w, y * w + w);
        paper = text.toString();
        return paper.length();
    }

    int paper(int i) {
        if (i < 0) return -1;
        return i < paper.length() ? paper.charAt(i) : -5;
    }

    int list(int list, int n) {
        if (list < 0 || list > 3) return -1;
        if (n > 20) return -2;
        if (n < 0) return -14;
        lists[list] = new long[n];
        return 1;
    }

    int set(int list, int i, long v) {
        if (list < 0 || list > 3) return -1;
        if (lists[list] == null) return -11;
        if (i < 0 || i >= lists[list].length) return -13;
        lists[list][i] = v;
        return 1;
    }

    long get(int list, int i) {
        if (list < 0 || list > 3 || lists[list] == null || i < 0 || i >= lists[list].length) return Long.MIN_VALUE;
        return lists[list][i];
    }

    private long rowBits(int y) {
        long bits = 0;
        for (int x = 0; x < w; x++) if (bit(cells, x, y) == 1) bits += 1L << x;
        return bits;
    }

    int lay(int list, int i) {
        if (list < 0 || list > 3) return -1;
        if (lists[list] == null) return -11;
        if (i < 0) return -13;
        for (int y = 0; y < h; y++) {
            if ((long) i + y < lists[list].length) lists[list][i + y] = rowBits(y);
        }
        return (long) i + h <= lists[list].length ? h : -13;
    }

    int load(int list, int i) {
        if (list < 0 || list > 3) return -1;
        if (lists[list] == null) return -11;
        if (i < 0 || (long) i + h > lists[list].length) return -13;
        StringBuilder grid = new StringBuilder();
        for (int p = 0; p < w * h; p++) grid.append((lists[list][i + p / w] >>> p % w) % 2 == 0 ? '.' : '#');
        cells = grid.toString();
        changes.clear();
        return ones(cells);
    }

    int judge(int list, int i) {
        if (list < 0 || list > 3) return -1;
        if (lists[list] == null || i < 0) return 100;
        int looked = 0;
        for (long p = i; p < lists[list].length && looked < h; p++) {
            if (lists[list][(int) p] != rowBits(looked)) return looked;
            looked++;
        }
        return looked == h ? -5 : 100 + looked;
    }

    // ---- seen, events, the image

    int see(int n, int cell, int v) {
        if (v == -1) {
            seen.clear();
            return 0;
        }
        boolean isCell = false;
        for (int x = 0; x < 16; x++) for (int y = 0; y < 16; y++) isCell |= cell == 100 * x + y;
        if (n < -12 || n > 12 || !isCell || v != 0 && v != 1) return -2;
        if (seen.size() == 5) return -4;
        seen.add(new int[] {n, cell, v});
        return seen.size();
    }

    int fits() {
        int bits = 0;
        for (int word = 0; word < 5; word++) {
            boolean isSo = true;
            for (int[] row : seen) {
                int x = row[1] / 100, y = row[1] % 100;
                isSo &= isCell(x, y) && bit(gone(cells, time, row[0], byWord(word)), x, y) == row[2];
            }
            if (isSo) bits += 1 << word;
        }
        return bits;
    }

    int event(int what, int n) {
        if (what == -1) {
            events.clear();
            return 0;
        }
        if (what < 0 || what > 2) return -1;
        if (what == 0 && (n < 0 || n > 4) || what == 1 && (n < 0 || n > 20)) return -2;
        if (what == 2 && (n < 0 || !isCell(n / 100, n % 100))) return -2;
        if (events.size() == 8) return -4;
        events.add(new int[] {what, n});
        return events.size();
    }

    int after(int what) {
        if (what != 0 && what != 1) return -1;
        String grid = cells;
        int[] becomes = rule;
        int at = time;
        for (int[] row : events) {
            int n = row[1];
            if (row[0] == 0) becomes = byWord(n);
            if (row[0] == 1) {
                grid = gone(grid, at, n, becomes);
                at += n;
            }
            if (row[0] == 2 && isCell(n / 100, n % 100)) grid = other(grid, n / 100, n % 100);
        }
        return what == 0 ? ones(grid) : things(grid).size();
    }

    private void takeOver(Model from) {
        w = from.w;
        h = from.h;
        time = from.time;
        cells = from.cells;
        rule = from.rule;
        seen = new ArrayList<>(from.seen);
        events = new ArrayList<>(from.events);
    }

    int image() {
        image = new Model();
        image.takeOver(this);
        return ones(cells);
    }

    int back() {
        if (image == null) return -3;
        takeOver(image);
        changes.clear();
        return ones(cells);
    }

    int count(int what) {
        if (what == 0) return seen.size();
        if (what == 1) return events.size();
        if (what == 2) return tape.length();
        return what == 3 ? paper.length() : -2;
    }
}
