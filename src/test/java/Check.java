/** What all tests share: answers are compared, and the wrong ones counted and printed. */
final class Check {
    private static int wrong = 0;
    private static String part = "";

    private Check() {
    }

    static void part(String name) {
        part = name;
    }

    static void due(String what, long got, long want) {
        if (got == want) return;
        wrong++;
        System.out.println(part + ": " + what + " answered " + got + ", due is " + want);
    }

    static void holds(String what, boolean so) {
        due(what, so ? 1 : 0, 1);
    }

    /** A new object with the text written, laid and wiped. */
    static CoreTests laid(String text, int cores) {
        CoreTests x = new CoreTests();
        written(x, text);
        due("lay() of " + text, x.lay(), cores);
        x.wipe();
        return x;
    }

    static void written(CoreTests x, String text) {
        for (int i = 0; i < text.length(); i++) x.write(text.charAt(i));
    }

    /** The numbers that why tells, all of them and no more. */
    static void dueWhy(CoreTests x, int... numbers) {
        due("why(-1)", x.why(-1), numbers.length);
        for (int i = 0; i < numbers.length; i++) due("why(" + i + ")", x.why(i), numbers[i]);
        due("why(" + numbers.length + ")", x.why(numbers.length), CoreTests.NONE);
    }

    /** What count tells of 0, 1, .. */
    static void dueCounts(CoreTests x, int... counts) {
        for (int i = 0; i < counts.length; i++) due("count(" + i + ")", x.count(i), counts[i]);
    }

    static void end() {
        System.out.println(wrong == 0 ? "all answers are as due" : wrong + " answers are not as due");
        if (wrong != 0) System.exit(1);
    }
}
