import java.lang.reflect.Method;

/** Each call with all numbers at the edges of what is told, in several states, against the model. */
public final class EdgeRuns {
    private static final int[] EDGES = {Integer.MIN_VALUE, -100000, -3, -2, -1, 0, 1, 2, 3, 4, 5, 6, 7, 8, 9, 10, 31, 32,
        126, 127, 199, 200, 9999, 10000, 99999, 100000, Integer.MAX_VALUE};
    private static final int CALLS_OF_AN_OBJECT = 250;
    private static final String[] TEXTS = {"", "w1;c0,1,1,1;", "w8;m40;c3,20,30,999999;c2,1,1,1;c1,3,9,123;b0,2;b1,2;",
        "w2;m5;c0,2,4,21;c0,1,6,1;c2,1,2,3;c3,5,3,4431;c0,1,1,1;c1,1,1,2;b0,1;b0,2;b2,3;b0,5;b4,5;b0,5;b1,4;b3,4;"};

    private CoreTests real;
    private Model model;
    private int made = CALLS_OF_AN_OBJECT;

    public static void main(String[] args) throws Exception {
        for (int state = 0; state < 2 * TEXTS.length; state++) {
            Check.part("edges of state " + state);
            EdgeRuns runs = new EdgeRuns();
            for (Method due : Model.class.getDeclaredMethods()) {
                boolean called = java.lang.reflect.Modifier.isPublic(due.getModifiers());
                if (called) runs.goThrough(due, state, new Object[due.getParameterCount()], 0);
            }
        }
        Check.end();
    }

    private void goThrough(Method due, int state, Object[] values, int i) throws Exception {
        if (i < values.length) {
            for (int edge : EDGES) {
                values[i] = edge;
                goThrough(due, state, values, i + 1);
            }
            return;
        }
        if (made++ >= CALLS_OF_AN_OBJECT) startIn(state);
        same(due, values);
    }

    private void same(Method due, Object... values) throws Exception {
        Method asked = CoreTests.class.getMethod(due.getName(), due.getParameterTypes());
        int want = (Integer) due.invoke(model, values);
        int got = (Integer) asked.invoke(real, values);
        Check.due(due.getName() + java.util.Arrays.toString(values), got, want);
    }

    private void startIn(int state) throws Exception {
        made = 0;
        real = new CoreTests();
        model = new Model();
        for (char letter : TEXTS[state / 2].toCharArray()) same(Model.class.getMethod("write", int.class), (int) letter);
        same(Model.class.getMethod("lay"));
        if (state % 2 == 0) return;
        same(Model.class.getMethod("keep"));
        same(Model.class.getMethod("put", int.class, int.class, int.class), 0, 1, 0);
        same(Model.class.getMethod("fill"));
        same(Model.class.getMethod("take", int.class), 0);
        same(Model.class.getMethod("put", int.class, int.class, int.class), 1, 1, 99999);
        same(Model.class.getMethod("seen", int.class, int.class, int.class), 0, 1, 60);
    }
}
