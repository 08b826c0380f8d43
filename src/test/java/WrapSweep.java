/**
 * All that WRAPPED can be: each row of CHAINS, the shortest first and mixed, at each WIDTH
 * against the model, and what each number of PATTERNS takes at each LOAD as each KIND.
 */
public final class WrapSweep {
    private static final int MOST_CORES = 6, MOST_CHAINS = 6, MOST_FIGURE = 9, MOST_PATTERNS = 20, MOST_LOAD = 54;

    private static StringBuilder text = new StringBuilder();
    private static int cores = 0;

    public static void main(String[] args) {
        Check.part("IDEAL, LOAD and the LINES of each row of CHAINS");
        rows("", 1);
        compareLaid();
        Check.part("what each number of PATTERNS takes at each LOAD");
        for (int load = 1; load <= MOST_LOAD; load++) {
            for (int patterns = 1; patterns <= MOST_PATTERNS; patterns++) dueTakes(patterns, load);
        }
        Check.end();
    }

    /** Each row that begins so and goes on with figures from least on. */
    private static void rows(String row, int least) {
        if (!row.isEmpty()) addRow(row);
        if (row.length() == MOST_CHAINS) return;
        for (int figure = least; figure <= MOST_FIGURE; figure++) rows(row + figure, figure);
    }

    /** The row as it is, or by turns the last figures between the first ones. */
    private static void addRow(String row) {
        StringBuilder mixed = new StringBuilder();
        for (int i = 0, j = row.length() - 1; i <= j; i++, j--) {
            mixed.append(row.charAt(i));
            if (i < j) mixed.append(row.charAt(j));
        }
        text.append("c0,1,1,").append(cores % 2 == 0 ? row : mixed).append(';');
        cores++;
        if (cores == MOST_CORES) compareLaid();
    }

    private static void compareLaid() {
        CoreTests real = new CoreTests();
        Model model = new Model();
        // The model goes through all ways of laying, so it is asked where they are not too many.
        String whole = "w5;" + text;
        for (char letter : whole.toCharArray()) {
            real.write(letter);
            model.write(letter);
        }
        Check.due("lay() of " + whole, real.lay(), model.lay());
        for (int c = 0; c < cores; c++) {
            for (int w = 1; w <= 5; w++) {
                String at = " of core " + c + " at " + w + " of " + whole;
                Check.due("LOAD" + at, real.wrap(c, w, 0), model.wrap(c, w, 0));
                Check.due("IDEAL" + at, real.wrap(c, w, 1), model.wrap(c, w, 1));
                for (int i = 0; i < MOST_CHAINS; i++) Check.due("LINE of chain " + i + at, real.line(c, w, i), model.line(c, w, i));
            }
        }
        text = new StringBuilder();
        cores = 0;
    }

    private static void dueTakes(int patterns, int load) {
        StringBuilder row = new StringBuilder();
        for (int rest = load; rest > 0; rest -= MOST_FIGURE) row.append(Math.min(rest, MOST_FIGURE));
        int plain = patterns * (load + 1) + load;
        int slow = plain + patterns * load;
        int[] takes = {plain, slow, Math.max(plain, 60), slow % 2 == 0 ? slow / 2 : slow / 2 + 1};
        CoreTests x = new CoreTests();
        Check.written(x, "w1;");
        for (int k = 0; k < 4; k++) Check.written(x, "c" + k + "," + patterns + ",1," + row + ";");
        Check.due("lay()", x.lay(), 4);
        for (int k = 0; k < 4; k++) Check.due("KIND " + k + " with " + patterns + " PATTERNS at LOAD " + load, x.wrap(k, 1, 2), takes[k]);
    }
}
