import java.lang.reflect.Method;
import java.util.ArrayList;
import java.util.List;

/** Drawn runs of 512 calls on the class and on the model: each answer must be the same. */
public final class ModelRuns {
    private static final int RUNS = 150;
    private static final int CALLS = 512;
    private static final String[] CALLED = {
        "put", "put", "put", "put", "put", "put", "put", "put", "take", "take", "take", "fill", "fill", "rename",
        "rename", "rename", "undo", "undo", "why", "why", "why", "why", "soonest", "soonest", "soonest", "runs",
        "runs", "runs", "bound", "bound", "best", "costs", "seen", "seen", "forget", "kinds", "kinds", "keep",
        "back", "count", "count", "count", "core", "core", "core", "chain", "wrap", "wrap", "line", "line", "fault",
        "write"};

    private static long seed = 1;

    private final List<String> calls = new ArrayList<>();
    private CoreTests real;
    private Model model;

    private static int drawn(int below) {
        seed = seed * 6364136223846793005L + 1442695040888963407L;
        return (int) Math.floorMod(seed >>> 33, (long) below);
    }

    private static int between(int least, int most) {
        return least + drawn(most - least + 1);
    }

    public static void main(String[] args) throws Exception {
        int runs = args.length > 0 ? Integer.parseInt(args[0]) : RUNS;
        if (args.length > 1) seed = Long.parseLong(args[1]);
        for (int run = 0; run < runs; run++) {
            Check.part("run " + run);
            if (!new ModelRuns().goesWell(run)) break;
        }
        Check.end();
    }

    private boolean goesWell(int run) throws Exception {
        real = new CoreTests();
        model = new Model();
        int made = 0;
        boolean large = run % 5 == 0;
        if (run % 7 != 0) {
            String text = text(large);
            for (int i = 0; i < text.length(); i++) if (!same("write", text.charAt(i))) return false;
            if (!same("fault") || !same("lay")) return false;
            if (drawn(2) == 0 && !same("wipe")) return false;
            made = text.length() + 2;
        }
        for (; made < CALLS; made++) {
            if (drawn(150) == 0 && made < CALLS - 210) {
                made += 2;
                if (!same("wipe")) return false;
                String text = text(large);
                for (int i = 0; i < text.length(); i++, made++) if (!same("write", text.charAt(i))) return false;
                if (!same("fault") || !same("lay")) return false;
            } else if (!drawnCall()) {
                return false;
            }
        }
        return true;
    }

    private boolean drawnCall() throws Exception {
        String name = CALLED[drawn(CALLED.length)];
        int end = model.count(5);
        int[] cycles = {0, drawn(20), drawn(100), drawn(end + 1), drawn(end + 50), end, 99999, 100000, -1};
        int t = drawn(25) == 0 ? cycles[drawn(cycles.length)] : cycles[drawn(6)];
        int c = odd() ? strange() : drawn(model.count(0));
        int w = odd() ? strange() : between(1, model.count(2));
        int small = odd() ? strange() : between(-2, 10);
        switch (name) {
            case "put": return same(name, c, w, t);
            case "take": case "kinds": return same(name, c);
            case "rename": return same(name, c, odd() ? strange() : drawn(4));
            case "why": return same(name, odd() ? strange() : between(-1, 4));
            case "soonest": return same(name, c, w);
            case "runs": return same(name, t, odd() ? strange() : drawn(3));
            case "bound": return same(name, odd() ? strange() : drawn(4));
            case "best": return same(name, odd() ? strange() : between(-1, 6));
            case "costs": return same(name, odd() ? strange() : drawn(8));
            case "seen": return same(name, c, w, sight(c, w));
            case "count": return same(name, small);
            case "core": return same(name, c, odd() ? strange() : drawn(7));
            case "chain": return same(name, c, odd() ? strange() : drawn(7));
            case "wrap": return same(name, c, w, odd() ? strange() : drawn(3));
            case "line": return same(name, c, w, odd() ? strange() : drawn(7));
            case "write": return same(name, between(30, 128));
            case "forget": return drawn(4) > 0 || same(name);
            default: return same(name);
        }
    }

    private static boolean odd() {
        return drawn(60) == 0;
    }

    private static int strange() {
        int[] all = {Integer.MIN_VALUE, -100, -5, -2, -1, 0, 5, 6, 7, 8, 9, 10, 32, 100, Integer.MAX_VALUE};
        return all[drawn(all.length)];
    }

    private int sight(int c, int w) {
        if (drawn(12) == 0) return new int[] {0, 1, 60, 9999, 10000, -3}[drawn(6)];
        int takes = model.wrap(c, w, 2);
        return takes > 0 ? takes : 7;
    }

    private boolean same(String name, int... args) throws Exception {
        Class<?>[] types = new Class<?>[args.length];
        Object[] values = new Object[args.length];
        StringBuilder call = new StringBuilder(name).append('(');
        for (int i = 0; i < args.length; i++) {
            types[i] = int.class;
            values[i] = args[i];
            call.append(i > 0 ? ", " : "").append(args[i]);
        }
        calls.add(call.append(')').toString());
        Method due = Model.class.getMethod(name, types);
        Method asked = CoreTests.class.getMethod(name, types);
        int want = (Integer) due.invoke(model, values);
        int got = (Integer) asked.invoke(real, values);
        Check.due(call.toString(), got, want);
        if (got != want) System.out.println(String.join(" ", calls));
        return got == want;
    }

    /** A text that is mostly without fault. */
    private static String text(boolean large) {
        StringBuilder all = new StringBuilder();
        if (drawn(5) > 0) all.append('w').append(between(1, 8)).append(';');
        int cores = between(1, 6);
        if (drawn(5) > 0) all.append('m').append(between(large ? 20 : 8, 40)).append(';');
        int rules = drawn(9);
        for (int c = 0; c < cores; c++) {
            all.append('c').append(drawn(4)).append(',').append(between(1, large ? 20 : 8)).append(',');
            all.append(between(1, drawn(12) == 0 ? 30 : 12)).append(',').append(row()).append(';');
            while (c > 0 && rules > 0 && drawn(2) == 0) {
                int a = drawn(c);
                all.append('b').append(a).append(',').append(between(a + 1, c)).append(';');
                rules--;
            }
        }
        if (drawn(6) == 0) spoil(all);
        if (all.length() > 203) all.setLength(203);
        return all.toString();
    }

    private static String row() {
        StringBuilder row = new StringBuilder();
        int most = drawn(2) == 0 ? 9 : 3;
        for (int i = between(1, 6); i > 0; i--) row.append(between(1, most));
        return row.toString();
    }

    private static void spoil(StringBuilder all) {
        String letters = "wmcb;,0123456789 Wx";
        int at = drawn(all.length());
        char letter = letters.charAt(drawn(letters.length()));
        switch (drawn(4)) {
            case 0: all.setCharAt(at, letter); break;
            case 1: all.insert(at, letter); break;
            case 2: all.deleteCharAt(at); break;
            default: all.append("m5;w3;c0,1,1,0;".substring(drawn(12))); break;
        }
    }
}
