import java.lang.reflect.Method;
import java.util.ArrayList;
import java.util.HashMap;
import java.util.List;
import java.util.Map;

/**
 * One object and what it is asked: each call by its name, with the answer that is due. The
 * document promises 512 calls of an object, so a test that makes more is itself wrong.
 */
final class Asked {
    static final int MIN = Integer.MIN_VALUE, MAX = Integer.MAX_VALUE;
    private static final int BAD = -1, NO = -2, MOST_CALLS = 512;
    private static final Map<String, Method> CALLS = new HashMap<>();

    private final CoreTests object = new CoreTests();
    private int made = 0;

    static {
        for (Method call : CoreTests.class.getMethods()) CALLS.put(call.getName(), call);
    }

    /** A new object with the text laid, and wiped behind that. */
    static Asked on(String text) {
        Asked x = new Asked().written(text);
        x.is(text.split("c", -1).length - 1, "lay");
        return x.is(text.length(), "wipe");
    }

    Asked written(String text) {
        for (int i = 0; i < text.length(); i++) answer("write", text.charAt(i));
        return this;
    }

    int answer(String call, int... numbers) {
        made++;
        if (made > MOST_CALLS) throw new IllegalStateException("more than 512 calls of one object");
        Object[] values = new Object[numbers.length];
        for (int i = 0; i < numbers.length; i++) values[i] = numbers[i];
        try {
            return (Integer) CALLS.get(call).invoke(object, values);
        } catch (ReflectiveOperationException e) {
            throw new IllegalStateException(call, e);
        }
    }

    Asked is(int due, String call, int... numbers) {
        StringBuilder told = new StringBuilder(call).append('(');
        for (int i = 0; i < numbers.length; i++) told.append(i > 0 ? ", " : "").append(numbers[i]);
        Check.due(told.append(')').toString(), answer(call, numbers), due);
        return this;
    }

    /** BAD with each of the wrong numbers at that place of the others, which are right. */
    Asked bad(String call, int place, int[] right, int... wrong) {
        for (int number : wrong) {
            int[] numbers = right.clone();
            numbers[place] = number;
            is(BAD, call, numbers);
        }
        return this;
    }

    /** WHY is these numbers, and no more. */
    Asked why(int... numbers) {
        is(numbers.length, "why", -1);
        for (int i = 0; i < numbers.length; i++) is(numbers[i], "why", i);
        return is(CoreTests.NONE, "why", numbers.length);
    }

    /** A put that is refused by that reason, with what is told there. */
    Asked refused(int c, int w, int t, int reason, int told) {
        return is(NO, "put", c, w, t).why(10 + c, reason, told);
    }

    /** A core is put at that width from that cycle on. */
    Asked lies(int c, int width, int from) {
        return is(width, "core", c, 4).is(from, "core", c, 5);
    }

    /** What is known of the object, but WHY: cores, plan, bounds, best, what was seen, counts. */
    List<Integer> picture() {
        List<Integer> all = new ArrayList<>();
        for (int what = 0; what < 10; what++) all.add(answer("count", what));
        for (int c = 0; c < all.get(0); c++) {
            for (int what = 0; what < 7; what++) all.add(answer("core", c, what));
            all.add(answer("kinds", c));
            all.add(answer("best", c));
        }
        all.add(answer("bound", 3));
        all.add(answer("best", -1));
        all.add(answer("fault"));
        return all;
    }

    Asked looksLike(Asked other) {
        List<Integer> mine = picture();
        List<Integer> others = other.picture();
        Check.holds("the same picture: " + mine + " and " + others, mine.equals(others));
        return this;
    }
}
