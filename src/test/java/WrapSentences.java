/**
 * The sentences of the document about CORES, their CHAINS and how they are WRAPPED that name a
 * boundary, each with a test of its own: what stands behind Check.part is the sentence.
 */
public final class WrapSentences {
    private static final int BAD = CoreTests.BAD, NO = CoreTests.NO, NONE = CoreTests.NONE;
    private static final int MIN = Asked.MIN, MAX = Asked.MAX;
    private static final int[] NO_CORES_OF_THREE = {-1, 3, 5, 6, -7, MIN, MAX};

    public static void main(String[] args) {
        longestFirst();
        ofSeveralTheLowestChain();
        leastLine();
        ofSeveralTheLowestLine();
        oneLineAndMoreThanChains();
        load();
        ideal();
        plainTakes();
        slowTakes();
        warmTakes();
        quickTakes();
        stairs();
        stairsOfEqual();
        stairsOfKind();
        core();
        coreNotPut();
        chain();
        wrap();
        line();
        Check.end();
    }

    /** The lines of the chains 0, 1, .. at a width, and that there are no more. */
    private static void dueLines(Asked x, int c, int w, int... lines) {
        for (int i = 0; i < lines.length; i++) x.is(lines[i], "line", c, w, i);
        x.is(NONE, "line", c, w, lines.length);
    }

    /** What wrap tells of a core at the widths 1, 2, .., and that there are no more. */
    private static void dueWraps(Asked x, int c, int what, int... answers) {
        for (int w = 1; w <= answers.length; w++) x.is(answers[w - 1], "wrap", c, w, what);
        x.is(BAD, "wrap", c, answers.length + 1, what);
    }

    private static void longestFirst() {
        Check.part("the CHAINS of a CORE, the longest first");
        Asked x = Asked.on("w3;c0,1,1,19;c0,1,1,1234;c0,1,1,191;");
        dueLines(x, 0, 2, 1, 0);
        // 4 on 0, 3 on 1, 2 on 1, 1 on 0.
        dueLines(x, 1, 2, 0, 1, 1, 0);
        // 4 on 0, 3 on 1, 2 on 2, 1 on 2.
        dueLines(x, 1, 3, 2, 2, 1, 0);
        dueLines(x, 2, 2, 1, 0, 1);
        dueLines(x, 2, 3, 1, 0, 2);
    }

    private static void ofSeveralTheLowestChain() {
        Check.part("the longest first, of several the lowest (0 the first of L)");
        Asked x = Asked.on("w6;c0,1,1,22;c0,1,1,222222;c0,1,1,2323;");
        dueLines(x, 0, 2, 0, 1);
        dueLines(x, 1, 6, 0, 1, 2, 3, 4, 5);
        dueLines(x, 1, 4, 0, 1, 2, 3, 0, 1);
        dueLines(x, 2, 4, 2, 0, 3, 1);
        dueLines(x, 2, 3, 2, 0, 2, 1);
    }

    private static void leastLine() {
        Check.part("are laid each on that of w LINES which has least so far");
        Asked x = Asked.on("w3;c0,1,1,5411;c0,1,1,9555;c0,1,1,333222;");
        // 5, then 4 and 1, then at 5 and 5 the lowest.
        dueLines(x, 0, 2, 0, 1, 1, 0);
        dueLines(x, 1, 2, 0, 1, 1, 0);
        dueLines(x, 1, 3, 0, 1, 2, 1);
        dueLines(x, 2, 2, 0, 1, 0, 1, 1, 0);
    }

    private static void ofSeveralTheLowestLine() {
        Check.part("that of w LINES which has least so far, of several the lowest");
        Asked x = Asked.on("w4;c0,1,1,32211;c0,1,1,7;c0,1,1,4441;");
        dueLines(x, 0, 2, 0, 1, 1, 0, 0);
        dueLines(x, 1, 4, 0);
        dueLines(x, 2, 3, 0, 1, 2, 0);
        dueLines(x, 2, 4, 0, 1, 2, 3);
    }

    private static void oneLineAndMoreThanChains() {
        Check.part("WRAPPED at a WIDTH w (1 to LINES)");
        Asked x = Asked.on("w8;c0,1,1,123;c0,1,1,123456;");
        dueLines(x, 0, 1, 0, 0, 0);
        dueLines(x, 0, 8, 2, 1, 0);
        dueLines(x, 1, 8, 5, 4, 3, 2, 1, 0);
        dueWraps(x, 0, 0, 6, 3, 3, 3, 3, 3, 3, 3);
        dueWraps(x, 1, 0, 21, 11, 7, 6, 6, 6, 6, 6);
        Asked one = Asked.on("w1;c0,1,1,123;");
        dueLines(one, 0, 1, 0, 0, 0);
        dueWraps(one, 0, 0, 6);
    }

    private static void load() {
        Check.part("LOAD is the most that a LINE has then");
        Asked x = Asked.on("w4;c0,1,1,9111;c0,1,1,1;c0,1,1,999999;c0,1,1,44333;");
        dueWraps(x, 0, 0, 12, 9, 9, 9);
        dueWraps(x, 1, 0, 1, 1, 1, 1);
        dueWraps(x, 2, 0, 54, 27, 18, 18);
        dueWraps(x, 3, 0, 17, 10, 7, 6);
    }

    private static void ideal() {
        Check.part("IDEAL the least that it could have, the CHAINS laid in any way");
        Asked x = Asked.on("w8;c0,1,1,44333;c0,1,1,999999;c0,1,1,1;c0,1,1,33222;c0,1,1,54333;c0,1,1,765432;");
        dueWraps(x, 0, 1, 17, 9, 7, 6, 4, 4, 4, 4);
        dueWraps(x, 1, 1, 54, 27, 18, 18, 18, 9, 9, 9);
        dueWraps(x, 2, 1, 1, 1, 1, 1, 1, 1, 1, 1);
        dueWraps(x, 3, 1, 12, 6, 5, 4, 3, 3, 3, 3);
        dueWraps(x, 4, 1, 18, 9, 7, 6, 5, 5, 5, 5);
        dueWraps(x, 5, 1, 27, 14, 9, 7, 7, 7, 7, 7);
        x.is(10, "wrap", 0, 2, 0).is(7, "wrap", 3, 2, 0).is(10, "wrap", 4, 2, 0);
        // 3, 3 and 3 beside 4, 4 and 1, whichever is told first.
        Asked y = Asked.on("w2;c0,1,1,143433;c0,1,1,444111;c0,1,1,133399;");
        y.is(10, "wrap", 0, 2, 0).is(9, "wrap", 0, 2, 1).is(8, "wrap", 1, 2, 0).is(8, "wrap", 1, 2, 1).is(15, "wrap", 2, 2, 0).is(15, "wrap", 2, 2, 1);
        Check.part("WRAPPED, it is LOAD that counts, not IDEAL");
        x.is(1 * 11 + 10, "wrap", 0, 2, 2).is(1 * 8 + 7, "wrap", 3, 2, 2);
    }

    private static void plainTakes() {
        Check.part("a PLAIN one P times (l and 1), and l");
        Asked x = Asked.on("w2;c0,1,1,1;c0,20,1,999999;c0,1,1,999999;c0,20,1,1;");
        dueWraps(x, 0, 2, 3, 3);
        dueWraps(x, 1, 2, 20 * 55 + 54, 20 * 28 + 27);
        dueWraps(x, 2, 2, 109, 55);
        dueWraps(x, 3, 2, 41, 41);
    }

    private static void slowTakes() {
        Check.part("a SLOW one P times l more than a PLAIN one");
        Asked x = Asked.on("w2;c1,1,1,1;c1,20,1,999999;c1,1,1,999999;c1,20,1,1;");
        dueWraps(x, 0, 2, 4, 4);
        dueWraps(x, 1, 2, 2234, 20 * 28 + 27 + 20 * 27);
        dueWraps(x, 2, 2, 163, 82);
        dueWraps(x, 3, 2, 61, 61);
    }

    private static void warmTakes() {
        Check.part("a WARM one as a PLAIN one, but 60 at least");
        // PLAIN 3, 59, 61 and 1154; by its loads 60 can be met by none.
        Asked x = Asked.on("w2;c2,1,1,1;c2,5,1,9;c2,1,1,9993;c2,20,1,999999;");
        dueWraps(x, 0, 2, 60, 60);
        dueWraps(x, 1, 2, 60, 60);
        dueWraps(x, 2, 2, 61, 60);
        dueWraps(x, 3, 2, 1154, 587);
    }

    private static void quickTakes() {
        Check.part("a QUICK one half of what a SLOW one takes and 1, cut");
        // SLOW 4, 2234, 7, 10, 10 and 61.
        Asked x = Asked.on("w1;c3,1,1,1;c3,20,1,999999;c3,1,1,2;c3,3,1,1;c3,1,1,3;c3,20,1,1;");
        int[] takes = {2, 1117, 4, 5, 5, 31};
        for (int c = 0; c < 6; c++) x.is(takes[c], "wrap", c, 1, 2);
        int[] slow = {4, 2234, 7, 10, 10, 61};
        for (int c = 0; c < 6; c++) x.is(3, "rename", c, 1).is(slow[c], "wrap", c, 1, 2);
    }

    private static void stairs() {
        Check.part("STAIRS of a CORE: WIDTHS (bits 1 to 8)");
        Asked.on("w1;c0,1,1,999999;").is(2, "core", 0, 6);
        Asked.on("w2;c0,1,1,999999;").is(2 + 4, "core", 0, 6);
        Asked x = Asked.on("w8;c0,1,1,111111;c0,1,1,123456;c0,1,1,91;c1,1,1,22211;c3,1,1,22211;");
        // Loads 6, 3, 2, 2, 2, 1; 21, 11, 7, 6; 10, 9; 8, 4, 3, 2.
        x.is(2 + 4 + 8 + 64, "core", 0, 6).is(2 + 4 + 8 + 16, "core", 1, 6).is(2 + 4, "core", 2, 6);
        x.is(2 + 4 + 8 + 16, "core", 3, 6).is(2 + 4 + 8 + 16, "core", 4, 6);
    }

    private static void stairsOfEqual() {
        Check.part("WIDTHS at which it takes less than at each lesser one");
        Asked x = Asked.on("w8;c0,1,1,9;c0,1,1,91;c0,1,1,9999;c2,1,1,9;c2,20,1,9;");
        x.is(2, "core", 0, 6).is(2 + 4, "core", 1, 6).is(2 + 4 + 16, "core", 2, 6).is(2, "core", 3, 6).is(2, "core", 4, 6);
    }

    private static void stairsOfKind() {
        Check.part("STAIRS are of what it takes, by the KIND that it is of");
        // Loads 30, 18, 12, 9: WARM takes 61 and else 60.
        Asked x = Asked.on("w4;c2,1,1,9993;c2,5,1,81;");
        x.is(2 + 4, "core", 0, 6).is(2, "rename", 0, 0).is(2 + 4 + 8 + 16, "core", 0, 6);
        // Loads 9 and 8: 59 and 53.
        x.is(2, "core", 1, 6).is(2, "rename", 1, 3).is(2 + 4, "core", 1, 6).is(1, "undo").is(2, "core", 1, 6);
    }

    private static void core() {
        Check.part("core: BAD");
        Asked x = Asked.on("w3;m40;c1,7,30,12;c2,1,1,9;c3,20,2,123456;");
        x.bad("core", 0, new int[] {0, 0}, NO_CORES_OF_THREE).bad("core", 0, new int[] {0, 4}, NO_CORES_OF_THREE);
        x.bad("core", 1, new int[] {0, 0}, -1, 7, 8, -2, MIN, MAX).bad("core", 1, new int[] {2, 0}, -1, 7, MIN, MAX);
        int[][] told = {{1, 7, 30, 2}, {2, 1, 1, 1}, {3, 20, 2, 6}};
        for (int c = 0; c < 3; c++) {
            for (int what = 0; what < 4; what++) x.is(told[c][what], "core", c, what);
        }
    }

    private static void coreNotPut() {
        Check.part("the WIDTH at which it is PUT (4; NONE), from which CYCLE on (5; NONE)");
        Asked x = Asked.on("w3;c0,1,1,1;c0,1,1,1;");
        x.lies(0, NONE, NONE).lies(1, NONE, NONE).is(3, "put", 1, 3, 0).lies(1, 3, 0).lies(0, NONE, NONE);
        x.is(0, "take", 1).lies(1, NONE, NONE).is(100002, "put", 1, 1, 99999).lies(1, 1, 99999);
        x.is(2, "undo").lies(1, NONE, NONE).is(3, "put", 0, 1, 0).lies(0, 1, 0);
    }

    private static void chain() {
        Check.part("chain: NONE: not so many; BAD (below 0)");
        Asked x = Asked.on("c0,1,1,7;c0,1,1,918273;c0,1,1,55;");
        x.is(7, "chain", 0, 0).is(NONE, "chain", 0, 1).is(NONE, "chain", 0, MAX).is(BAD, "chain", 0, -1).is(BAD, "chain", 0, MIN);
        int[] row = {9, 1, 8, 2, 7, 3};
        for (int i = 0; i < 6; i++) x.is(row[i], "chain", 1, i);
        x.is(NONE, "chain", 1, 6).is(NONE, "chain", 1, 7).is(BAD, "chain", 1, -1).is(5, "chain", 2, 1).is(NONE, "chain", 2, 2);
        x.bad("chain", 0, new int[] {0, 0}, NO_CORES_OF_THREE);
        Check.part("BAD .. NONE. Of several the first in this order");
        x.bad("chain", 0, new int[] {0, 6}, NO_CORES_OF_THREE).bad("chain", 0, new int[] {0, -1}, NO_CORES_OF_THREE);
    }

    private static void wrap() {
        Check.part("wrap: BAD (WIDTHS 1 to LINES)");
        Asked x = Asked.on("w3;c0,1,1,7;c0,1,1,91;c0,1,1,55;");
        for (int what = 0; what < 3; what++) {
            x.bad("wrap", 0, new int[] {0, 1, what}, NO_CORES_OF_THREE);
            x.bad("wrap", 1, new int[] {1, 1, what}, 0, -1, 4, 8, 9, -3, MIN, MAX);
        }
        for (int w = 1; w <= 3; w++) x.bad("wrap", 2, new int[] {1, w, 0}, -1, 3, 4, MIN, MAX);
        dueWraps(x, 1, 0, 10, 9, 9);
        Asked.on("w8;c0,1,1,7;").is(7, "wrap", 0, 8, 0).is(BAD, "wrap", 0, 9, 0);
    }

    private static void line() {
        Check.part("line: NONE: not so many CHAINS; BAD (below 0)");
        Asked x = Asked.on("w3;c0,1,1,7;c0,1,1,918273;c0,1,1,55;");
        dueLines(x, 0, 3, 0);
        dueLines(x, 2, 3, 0, 1);
        x.is(NONE, "line", 1, 3, 6).is(NONE, "line", 1, 3, 7).is(NONE, "line", 1, 3, MAX).is(NONE, "line", 0, 1, 1);
        for (int w = 1; w <= 3; w++) x.is(BAD, "line", 1, w, -1).is(BAD, "line", 1, w, MIN).is(0, "line", 1, w, 0);
        x.bad("line", 0, new int[] {0, 1, 0}, NO_CORES_OF_THREE).bad("line", 1, new int[] {0, 1, 0}, 0, -1, 4, 8, 9, MIN, MAX);
        Check.part("BAD .. NONE. Of several the first in this order");
        x.bad("line", 0, new int[] {0, 1, 6}, NO_CORES_OF_THREE).bad("line", 1, new int[] {0, 1, 6}, 0, 4, MIN, MAX);
    }
}
