import java.util.Random;

/** Runs of calls drawn by fixed seeds: the class answers each as the model does. */
public final class ModelTest {
    private static final int RUNS = 600;
    private static final int CALLS = 512;
    // How often each call is drawn, in the order of the document's face.
    private static final int[] OFTEN = {
        2, 60, 12, 8, 16, 8, 10, 8, 16, 10, 8, 6, 6, 6, 6, 6, 8, 4, 8, 8,
        4, 10, 2, 6, 8, 10, 6, 8, 6, 10, 10, 12, 14, 12, 3, 5, 6,
    };
    private final Random random;
    private final BlockCells cells = new BlockCells();
    private final Model model = new Model();
    private int calls = 0;
    private long got;
    private long want;

    private ModelTest(int seed) {
        random = new Random(seed);
    }

    public static void main(String[] args) {
        int runs = args.length > 0 ? Integer.parseInt(args[0]) : RUNS;
        int wrong = 0;
        for (int seed = 0; seed < runs; seed++) wrong += new ModelTest(seed).run(seed);
        System.out.println(wrong == 0 ? runs + " runs are as the model's" : wrong + " runs are not as the model's");
        if (wrong != 0) System.exit(1);
    }

    /** 1 if an answer differs: what comes behind it says no more. */
    private int run(int seed) {
        begin(seed);
        while (calls < CALLS) {
            String call = call(drawn());
            if (got != want) {
                System.out.println("seed " + seed + ", call " + calls + ", " + call + " answered " + got + ", the model " + want);
                return 1;
            }
        }
        return 0;
    }

    /** Some runs begin with a grid that is read, or near the last time. */
    private void begin(int seed) {
        if (seed % 3 == 0) text(evenSide(), evenSide());
        if (seed % 3 == 1) size(evenSide(), evenSide());
        for (int i = 0; seed % 7 == 0 && i < 50; i++) steps(seed % 2 == 0 ? 200 : -200);
    }

    private int drawn() {
        int all = 0;
        for (int often : OFTEN) all += often;
        int left = random.nextInt(all);
        for (int i = 0; i < OFTEN.length; i++) {
            left -= OFTEN[i];
            if (left < 0) return i;
        }
        return 0;
    }

    private void answers(long fromClass, long fromModel) {
        calls++;
        got = fromClass;
        want = fromModel;
    }

    private boolean seldom() {
        return random.nextInt(12) == 0;
    }

    private int from(int least, int most) {
        return least + random.nextInt(most - least + 1);
    }

    /** A number as told, seldom one at or beyond the edge. */
    private int number(int least, int most) {
        if (!seldom()) return from(least, most);
        int[] edges = {least, most, least - 1, most + 1, -1, 0, Integer.MIN_VALUE, Integer.MAX_VALUE};
        return edges[random.nextInt(edges.length)];
    }

    private int evenSide() {
        return random.nextInt(3) == 0 ? 2 * from(1, 8) : 2 * from(1, 3);
    }

    private int x() {
        return seldom() ? number(0, 15) : from(0, model.told(0) - 1);
    }

    private int y() {
        return seldom() ? number(0, 15) : from(0, model.told(1) - 1);
    }

    private int anyCell() {
        return seldom() ? number(-100, 1700) : 100 * x() + y();
    }

    private int fewSteps() {
        return random.nextBoolean() ? from(-3, 3) : number(-200, 200);
    }

    private void size(int w, int h) {
        answers(cells.size(w, h), model.size(w, h));
    }

    private void steps(int n) {
        answers(cells.steps(n), model.steps(n));
    }

    private void feed(int letter) {
        answers(cells.feed(letter), model.feed(letter));
    }

    /** A text of a grid, whole or with a sign too many, missing or another. */
    private void text(int width, int height) {
        StringBuilder text = new StringBuilder();
        int dense = from(1, 4);
        for (int i = 0; i < (width + 1) * height - 1; i++) {
            text.append(i % (width + 1) == width ? '/' : random.nextInt(dense) == 0 ? '#' : '.');
        }
        int place = random.nextInt(text.length());
        int kind = random.nextInt(12);
        if (kind == 0) text.deleteCharAt(place);
        if (kind == 1) text.insert(place, "./#x/.".charAt(random.nextInt(6)));
        if (kind == 2) text.setCharAt(place, "/#x ".charAt(random.nextInt(4)));
        if (kind == 3) text.setLength(place);
        if (kind == 4) text.append("./#".charAt(random.nextInt(3)));
        if (text.length() > CALLS - calls - 1) return;
        for (int i = 0; i < text.length(); i++) feed(text.charAt(i));
    }

    private int anySide() {
        return random.nextInt(8) == 0 ? from(1, 17) : random.nextInt(4) == 0 ? from(1, 5) : 2 * from(1, 3);
    }

    private long word() {
        return random.nextBoolean() ? random.nextLong() : from(-5, 70000);
    }

    private int firstLetter() {
        if (random.nextBoolean()) text(anySide(), anySide());
        return seldom() ? number(1, 127) : "./#".charAt(random.nextInt(3));
    }

    private String call(int which) {
        int a, b, c, d;
        boolean back;
        switch (which) {
            case 0: a = seldom() ? number(2, 16) : evenSide(); b = seldom() ? number(2, 16) : evenSide(); size(a, b); return "size " + a + " " + b;
            case 1: a = x(); b = y(); answers(cells.toggle(a, b), model.toggle(a, b)); return "toggle " + a + " " + b;
            case 2: answers(cells.undo(), model.undo()); return "undo";
            case 3: a = x(); b = y(); answers(cells.cell(a, b), model.cell(a, b)); return "cell " + a + " " + b;
            case 4: a = number(0, 7); answers(cells.told(a), model.told(a)); return "told " + a;
            case 5: a = number(0, 4); answers(cells.rule(a), model.rule(a)); return "rule " + a;
            case 6: a = number(0, 15); b = number(0, 15); answers(cells.change(a, b), model.change(a, b)); return "change " + a + " " + b;
            case 7: a = number(0, 15); back = random.nextBoolean(); answers(cells.becomes(a, back), model.becomes(a, back)); return "becomes " + a + " " + back;
            case 8: a = fewSteps(); steps(a); return "steps " + a;
            case 9: a = x(); b = y(); answers(cells.block(a, b), model.block(a, b)); return "block " + a + " " + b;
            case 10: a = x(); b = y(); c = number(-60, 60); answers(cells.then(a, b, c), model.then(a, b, c)); return "then " + a + " " + b + " " + c;
            case 11: a = number(-9, 9); b = number(-9, 9); c = number(-9, 9); d = number(-9, 9); answers(cells.sum(a, b, c, d), model.sum(a, b, c, d)); return "sum " + a + " " + b + " " + c + " " + d;
            case 12: a = number(-2, 2); b = number(-1, 1); c = random.nextBoolean() ? b : number(-1, 1); d = random.nextBoolean() ? a : number(-9, 9); answers(cells.kept(a, b, c, d), model.kept(a, b, c, d)); return "kept " + a + " " + b + " " + c + " " + d;
            case 13: answers(cells.again(), model.again()); return "again";
            case 14: a = number(0, 2); answers(cells.moved(a), model.moved(a)); return "moved " + a;
            case 15: a = number(0, 64); answers(cells.unlike(a), model.unlike(a)); return "unlike " + a;
            case 16: a = number(0, 5); b = number(0, 2); answers(cells.thing(a, b), model.thing(a, b)); return "thing " + a + " " + b;
            case 17: a = x(); b = y(); answers(cells.thingAt(a, b), model.thingAt(a, b)); return "thingAt " + a + " " + b;
            case 18: a = number(0, 4); b = number(0, 2); answers(cells.shape(a, b), model.shape(a, b)); return "shape " + a + " " + b;
            case 19: a = firstLetter(); feed(a); return "feed " + a;
            case 20: if (random.nextBoolean() && model.count(2) == 0) text(anySide(), anySide()); answers(cells.read(), model.read()); return "read";
            default: return laterCall(which);
        }
    }

    private String laterCall(int which) {
        int a, b, c;
        long v;
        switch (which) {
            case 21: answers(cells.read(), model.read()); return "read";
            case 22: answers(cells.spell(), model.spell()); return "spell";
            case 23: a = number(0, 80); answers(cells.paper(a), model.paper(a)); return "paper " + a;
            case 24: a = number(0, 3); b = number(0, 20); answers(cells.list(a, b), model.list(a, b)); return "list " + a + " " + b;
            case 25: a = number(0, 3); b = number(0, 19); v = word(); answers(cells.set(a, b, v), model.set(a, b, v)); return "set " + a + " " + b + " " + v;
            case 26: a = number(0, 3); b = number(0, 19); answers(cells.get(a, b), model.get(a, b)); return "get " + a + " " + b;
            case 27: a = number(0, 3); b = number(0, 6); answers(cells.lay(a, b), model.lay(a, b)); return "lay " + a + " " + b;
            case 28: a = number(0, 3); b = number(0, 6); answers(cells.load(a, b), model.load(a, b)); return "load " + a + " " + b;
            case 29: a = number(0, 3); b = number(0, 6); answers(cells.judge(a, b), model.judge(a, b)); return "judge " + a + " " + b;
            case 30: a = number(-12, 12); b = anyCell(); c = seldom() ? number(-1, 1) : from(0, 1); answers(cells.see(a, b, c), model.see(a, b, c)); return "see " + a + " " + b + " " + c;
            case 31: answers(cells.fits(), model.fits()); return "fits";
            case 32: a = number(0, 2); b = a == 2 ? anyCell() : a == 1 ? number(0, 20) : number(0, 4); answers(cells.event(a, b), model.event(a, b)); return "event " + a + " " + b;
            case 33: a = number(0, 1); answers(cells.after(a), model.after(a)); return "after " + a;
            case 34: answers(cells.image(), model.image()); return "image";
            case 35: answers(cells.back(), model.back()); return "back";
            default: a = number(0, 3); answers(cells.count(a), model.count(a)); return "count " + a;
        }
    }
}
