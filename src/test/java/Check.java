/** Counts the answers that are not as due and tells each. */
final class Check {
    private int asked = 0;
    private int wrong = 0;

    void due(int promise, String what, long got, long want) {
        asked++;
        if (got == want) return;
        wrong++;
        System.out.println("promise " + promise + ": " + what + " answered " + got + ", due is " + want);
    }

    void end() {
        System.out.println(wrong == 0 ? asked + " answers are as due" : wrong + " answers are not as due");
        if (wrong != 0) System.exit(1);
    }

    static void feed(BlockCells cells, String text) {
        for (int i = 0; i < text.length(); i++) cells.feed(text.charAt(i));
    }

    static int read(BlockCells cells, String text) {
        feed(cells, text);
        return cells.read();
    }

    static BlockCells of(String text) {
        BlockCells cells = new BlockCells();
        if (read(cells, text) < 0) throw new IllegalArgumentException(text);
        return cells;
    }

    static String spelled(BlockCells cells) {
        int length = cells.spell();
        StringBuilder text = new StringBuilder();
        for (int i = 0; i < length; i++) text.append((char) cells.paper(i));
        return text.toString();
    }

    void grid(int promise, String what, BlockCells cells, String want) {
        String got = spelled(cells);
        asked++;
        if (got.equals(want)) return;
        wrong++;
        System.out.println("promise " + promise + ": " + what + " left " + got + ", due is " + want);
    }
}
