/**
 * The sentences of the document about PUT, REFUSED, SOONEST, FILLED and UNDONE that name a
 * boundary, each with a test of its own: what stands behind Check.part is the sentence.
 * A PLAIN core of 1 pattern and one chain of length l takes 2l+1 cycles at each width.
 */
public final class ActSentences {
    private static final int BAD = CoreTests.BAD, NO = CoreTests.NO, NONE = CoreTests.NONE;
    private static final int MIN = Asked.MIN, MAX = Asked.MAX;
    private static final int[] NO_CORES_OF_THREE = {-1, 3, 5, 6, -7, MIN, MAX};
    private static final int[] NO_WIDTHS_OF_THREE = {0, -1, 4, 8, 9, -3, MIN, MAX};
    private static final int[] NO_CYCLES = {-1, -99999, 100000, 100001, MIN, MAX};

    /** 5, 3 and 7 cycles on three lines. */
    private static final String FREE = "w3;m9;c0,1,3,2;c0,1,3,1;c0,1,3,3;";
    /** The same, but 0 is ahead of 1 and of 2. */
    private static final String ONE_AHEAD = FREE + "b0,2;b0,1;";
    /** The same, but 0 and 1 are ahead of 2. */
    private static final String TWO_AHEAD = FREE + "b1,2;b0,2;";
    /** The same, but each is ahead of the next one. */
    private static final String IN_A_ROW = FREE + "b0,1;b1,2;";

    public static void main(String[] args) {
        putCycles();
        putBad();
        putRunsAsLongAsItTakes();
        putAgain();
        aheadNotPut();
        aheadNotDone();
        aheadTheLowest();
        aheadAsToldAlone();
        behindBegins();
        behindTheLowest();
        linesTogether();
        linesInTheFirstCycle();
        powerTogether();
        powerInTheFirstCycle();
        powerOfOneAlone();
        reasonsInOrder();
        soonestAtOnce();
        soonestBehind();
        soonestInAGap();
        soonestBehindThoseAhead();
        soonestAheadOfThoseBehind();
        soonestNone();
        soonestBad();
        soonestAfterTheLastCycle();
        length();
        runs();
        runsBad();
        take();
        takeLeavesThoseBehind();
        rename();
        renameRefused();
        Check.end();
    }

    private static void putCycles() {
        Check.part("PUT from a CYCLE (0 to 99999) on: LENGTH then");
        Asked x = Asked.on(FREE).is(5, "put", 0, 1, 0).is(100002, "put", 1, 1, 99999).is(100002, "put", 2, 1, 99992).lies(1, 1, 99999);
        x.is(100002, "take", 0).is(99999, "take", 1).is(99999, "put", 0, 1, 99994).is(5, "runs", 99998, 2).is(0, "runs", 99999, 2);
        Asked.on("w1;m40;c1,20,30,999999;").is(102233, "put", 0, 1, 99999).is(102233, "count", 5);
    }

    private static void putBad() {
        Check.part("put: BAD (CORES: such as there are; WIDTHS 1 to LINES; a CYCLE 0 to 99999)");
        Asked x = Asked.on(FREE);
        x.bad("put", 0, new int[] {0, 1, 0}, NO_CORES_OF_THREE).bad("put", 1, new int[] {0, 1, 0}, NO_WIDTHS_OF_THREE);
        x.bad("put", 2, new int[] {0, 1, 0}, NO_CYCLES).bad("put", 2, new int[] {2, 3, 0}, NO_CYCLES).looksLike(Asked.on(FREE)).why();
        Asked.on("w8;c0,1,1,1;").is(3, "put", 0, 8, 0);
        Asked.on("w1;c0,1,1,1;").is(BAD, "put", 0, 2, 0).is(3, "put", 0, 1, 0);
        Check.part("BAD .. NO. Of several the first in this order: one that is PUT");
        x.is(5, "put", 0, 1, 0).bad("put", 1, new int[] {0, 1, 0}, NO_WIDTHS_OF_THREE).bad("put", 2, new int[] {0, 1, 0}, NO_CYCLES);
        Check.part("BAD .. NO. Of several the first in this order: one that would be REFUSED");
        Asked y = Asked.on(ONE_AHEAD).bad("put", 1, new int[] {1, 1, 0}, NO_WIDTHS_OF_THREE).bad("put", 2, new int[] {1, 1, 0}, NO_CYCLES);
        y.why().is(NO, "put", 1, 1, 0).why(11, 1, 0);
    }

    private static void putRunsAsLongAsItTakes() {
        Check.part("PUT at a WIDTH from a CYCLE on it runs for as many CYCLES as it takes");
        Asked x = Asked.on("w2;c0,2,1,33;").is(7 + 20, "put", 0, 1, 7).is(0, "runs", 6, 2).is(1, "runs", 7, 2).is(1, "runs", 26, 2).is(0, "runs", 27, 2);
        x.is(0, "take", 0).is(7 + 11, "put", 0, 2, 7).is(1, "runs", 17, 2).is(0, "runs", 18, 2).is(2, "runs", 7, 0);
    }

    private static void putAgain() {
        Check.part("put: NO: it is PUT (WHY stays)");
        Asked x = Asked.on(ONE_AHEAD).is(9, "put", 0, 2, 4).is(NO, "put", 0, 2, 4).is(NO, "put", 0, 1, 50).why().is(1, "count", 7);
        x.refused(1, 1, 0, 1, 0).is(NO, "put", 0, 3, 0).is(NO, "put", 0, 2, 4).why(11, 1, 0).lies(0, 2, 4).is(9, "count", 5).is(1, "count", 4);
    }

    private static void aheadNotPut() {
        Check.part("1 a CORE AHEAD of it .. is not PUT");
        Asked x = Asked.on(ONE_AHEAD).refused(1, 1, 0, 1, 0).refused(1, 1, 99999, 1, 0).refused(2, 3, 50, 1, 0).is(0, "count", 4);
        x.is(5, "put", 0, 1, 0).is(0, "take", 0).refused(1, 1, 5, 1, 0).is(2, "count", 7);
    }

    private static void aheadNotDone() {
        Check.part("1 a CORE AHEAD of it .. or not done by then");
        Asked x = Asked.on(ONE_AHEAD).is(15, "put", 0, 1, 10).refused(1, 1, 0, 1, 0).refused(1, 1, 10, 1, 0).refused(1, 1, 14, 1, 0);
        x.is(18, "put", 1, 1, 15).refused(2, 1, 14, 1, 0).is(22, "put", 2, 1, 15);
    }

    private static void aheadTheLowest() {
        Check.part("1 a CORE AHEAD of it, the lowest such");
        Asked x = Asked.on(TWO_AHEAD).refused(2, 1, 90, 1, 0).is(23, "put", 1, 1, 20).refused(2, 1, 20, 1, 0).refused(2, 1, 90, 1, 0);
        x.is(23, "put", 0, 1, 10).refused(2, 1, 10, 1, 0).refused(2, 1, 14, 1, 0).refused(2, 1, 15, 1, 1).refused(2, 1, 22, 1, 1);
        x.is(15, "take", 1).refused(2, 1, 14, 1, 0).refused(2, 1, 15, 1, 1).is(18, "put", 1, 1, 15).is(25, "put", 2, 1, 18);
    }

    private static void aheadAsToldAlone() {
        Check.part("CORE A is AHEAD of B as a rule tells it, not by way of a third");
        Asked x = Asked.on(IN_A_ROW).is(5, "put", 0, 1, 0).is(8, "put", 1, 1, 5).is(8, "take", 0).is(15, "put", 2, 1, 8);
        x.refused(0, 1, 1, 2, 1).is(8, "take", 2).is(0, "take", 1).is(25, "put", 0, 1, 20).is(28, "put", 1, 1, 25).is(28, "take", 0);
        x.is(35, "put", 2, 1, 28).refused(0, 1, 21, 2, 1);
    }

    private static void behindBegins() {
        Check.part("2 it would not be done when one it is AHEAD of .. begins");
        Asked x = Asked.on(ONE_AHEAD).is(5, "put", 0, 1, 0).is(13, "put", 1, 1, 10).is(13, "take", 0);
        x.refused(0, 1, 6, 2, 1).refused(0, 1, 10, 2, 1).refused(0, 1, 13, 2, 1).refused(0, 1, 99999, 2, 1).is(13, "put", 0, 1, 5);
        Asked y = Asked.on(ONE_AHEAD).is(5, "put", 0, 1, 0).is(8, "put", 1, 1, 5).is(8, "take", 0).refused(0, 1, 1, 2, 1).is(8, "put", 0, 3, 0);
        y.lies(0, 3, 0);
    }

    private static void behindTheLowest() {
        Check.part("2 .. one it is AHEAD of, the lowest such");
        Asked x = Asked.on(ONE_AHEAD).is(5, "put", 0, 1, 0).is(13, "put", 1, 1, 10).is(15, "put", 2, 1, 8).is(15, "take", 0);
        x.refused(0, 1, 4, 2, 2).refused(0, 1, 5, 2, 2).refused(0, 1, 6, 2, 1).refused(0, 1, 80, 2, 1).is(13, "take", 2);
        x.refused(0, 1, 6, 2, 1).is(13, "put", 0, 1, 5);
        Asked y = Asked.on(ONE_AHEAD).is(5, "put", 0, 1, 0).is(12, "put", 2, 1, 5).is(12, "take", 0).refused(0, 1, 1, 2, 2);
        y.is(12, "put", 0, 1, 0);
    }

    private static void linesTogether() {
        Check.part("3 in a CYCLE .. more LINES would be taken together than there are");
        Asked x = Asked.on(FREE).is(13, "put", 1, 2, 10);
        x.refused(0, 2, 6, 3, 10).is(13, "put", 0, 1, 6).is(13, "take", 0).is(13, "put", 0, 2, 5).is(13, "take", 0);
        x.refused(0, 2, 12, 3, 12).is(18, "put", 0, 2, 13).is(13, "take", 0).refused(0, 3, 9, 3, 10).is(17, "put", 0, 1, 12);
        x.is(17, "put", 2, 3, 0).is(17, "take", 2).refused(2, 3, 4, 3, 10);
        Asked.on("w1;c0,1,1,1;c0,1,1,1;").is(3, "put", 0, 1, 0).refused(1, 1, 2, 3, 2).is(6, "put", 1, 1, 3);
        Asked y = Asked.on("w8;" + "c0,1,1,1;".repeat(6));
        y.is(3, "put", 0, 3, 0).is(3, "put", 1, 5, 0).refused(2, 1, 0, 3, 0).is(6, "put", 2, 8, 3);
    }

    private static void linesInTheFirstCycle() {
        Check.part("3 in a CYCLE, the first such");
        // 19 cycles beside 3 cycles each from 4, 8 and 12 on.
        Asked x = Asked.on("w4;m40;c0,1,1,9;c0,1,1,1;c0,1,1,1;c0,1,1,1;").is(15, "put", 1, 2, 12).is(15, "put", 2, 3, 8).is(15, "put", 3, 1, 4);
        x.refused(0, 4, 0, 3, 4).refused(0, 4, 5, 3, 5).refused(0, 4, 7, 3, 8).refused(0, 3, 0, 3, 8);
        x.refused(0, 3, 11, 3, 12).refused(0, 3, 14, 3, 14).is(34, "put", 0, 4, 15);
        Check.part("3 in a CYCLE, the first such: by those that run together, not by one alone");
        Asked y = Asked.on("w4;m40;c0,1,1,9;c0,1,1,3;c0,1,1,3;c0,1,1,1;").is(11, "put", 1, 1, 4).is(15, "put", 2, 1, 8);
        y.refused(0, 3, 0, 3, 8).is(19, "put", 0, 2, 0).is(15, "take", 0).refused(0, 3, 10, 3, 10).is(30, "put", 0, 3, 11);
    }

    private static void powerTogether() {
        Check.part("4 in a CYCLE .. more would be DRAWN together than POWER");
        Asked x = Asked.on("w3;m9;c0,1,4,2;c0,1,5,1;c0,1,6,1;").is(13, "put", 1, 1, 10);
        x.refused(2, 1, 8, 4, 10).refused(2, 1, 10, 4, 10).refused(2, 2, 12, 4, 12).is(13, "put", 2, 1, 7).is(13, "take", 2);
        x.is(16, "put", 2, 1, 13).is(13, "take", 2).is(15, "put", 0, 1, 10).refused(2, 1, 8, 4, 10).refused(2, 1, 13, 4, 13);
    }

    private static void powerInTheFirstCycle() {
        Check.part("4 in a CYCLE, the first such");
        Asked x = Asked.on("w8;m9;c0,1,5,9;c0,1,4,1;c0,1,5,1;c0,1,2,1;").is(15, "put", 1, 1, 12).is(15, "put", 2, 1, 8).is(15, "put", 3, 1, 4);
        x.refused(0, 1, 0, 4, 8).refused(0, 1, 10, 4, 10).is(30, "put", 0, 1, 11).is(15, "take", 0).refused(0, 1, 7, 4, 8);
    }

    private static void powerOfOneAlone() {
        Check.part("4 .. a CORE that DRAWS more than POWER alone");
        Asked x = Asked.on("m9;c0,1,10,1;c0,1,9,1;").refused(0, 1, 0, 4, 0).refused(0, 4, 99999, 4, 99999).is(3, "put", 1, 1, 0);
        x.refused(0, 1, 7, 4, 7).refused(0, 4, 1, 3, 1);
    }

    private static void reasonsInOrder() {
        Check.part("REFUSED by the first of these REASONS");
        // 0 ahead of 1, 1 ahead of 2; 3 on all lines, drawing all, from 6 to 9.
        Asked x = Asked.on("w3;m9;c0,1,3,2;c0,1,3,1;c0,1,3,3;c0,1,9,1;b0,1;b1,2;").is(25, "put", 0, 1, 20).is(28, "put", 1, 1, 25);
        x.is(35, "put", 2, 1, 28).is(35, "put", 3, 3, 6).is(35, "take", 1);
        Check.part("REASON 1 ahead of 2, 3 and 4");
        x.refused(1, 1, 6, 1, 0).refused(1, 1, 24, 1, 0).refused(1, 1, 26, 2, 2).is(35, "take", 0).refused(1, 1, 90, 1, 0);
        Check.part("REASON 2 ahead of 3 and 4");
        Asked y = Asked.on("w3;m9;c0,1,3,2;c0,1,3,1;c0,1,9,9;b0,1;").is(5, "put", 0, 1, 0).is(9, "put", 1, 1, 6).is(9, "take", 0);
        y.is(28, "put", 2, 3, 9).refused(0, 3, 5, 2, 1).refused(0, 3, 9, 2, 1).is(28, "put", 0, 3, 1);
        Check.part("REASON 3 ahead of 4, in a later CYCLE too");
        Asked z = Asked.on("w3;m9;c0,1,3,9;c0,1,9,1;c0,1,1,1;").is(5, "put", 1, 1, 2).is(13, "put", 2, 2, 10);
        z.refused(0, 2, 0, 3, 10).refused(0, 1, 0, 4, 2).refused(0, 3, 0, 3, 2).refused(0, 2, 5, 3, 10).is(24, "put", 0, 1, 5);
    }

    private static void soonestAtOnce() {
        Check.part("SOONEST of a CORE at a WIDTH: the first CYCLE from which it is not REFUSED");
        Asked x = Asked.on(FREE);
        for (int c = 0; c < 3; c++) x.is(0, "soonest", c, 1).is(0, "soonest", c, 3);
        x.is(5, "put", 0, 1, 0).is(0, "soonest", 1, 2).is(5, "soonest", 1, 3).is(0, "soonest", 2, 2).is(5, "soonest", 2, 3);
        Check.part("SOONEST: one that fits ahead of another to the cycle");
        Asked y = Asked.on(FREE).is(8, "put", 0, 3, 3).is(0, "soonest", 1, 3).is(8, "soonest", 2, 3).is(8, "soonest", 2, 1);
        y.is(0, "take", 0).is(7, "put", 0, 3, 2).is(7, "soonest", 1, 3).is(7, "soonest", 1, 1);
    }

    private static void soonestBehind() {
        Check.part("SOONEST: from when enough LINES are free, enough POWER is");
        Asked x = Asked.on("w3;m9;c0,1,5,2;c0,1,4,3;c0,1,4,1;").is(5, "put", 0, 1, 0).is(7, "put", 1, 1, 0).is(5, "soonest", 2, 1);
        x.is(5, "soonest", 2, 2).is(7, "soonest", 2, 3);
        x.is(0, "rename", 2, 1).is(5, "soonest", 2, 1).is(1, "rename", 2, 0);
        Check.part("SOONEST: not so that LINES or POWER is taken up while it runs");
        Asked y = Asked.on("w3;m9;c0,1,5,2;c0,1,5,1;c0,1,4,1;").is(5, "put", 1, 1, 2).is(5, "soonest", 0, 1).is(0, "soonest", 2, 1);
        y.is(0, "soonest", 2, 2).is(5, "soonest", 2, 3).is(10, "fill").lies(0, 1, 5);
        x.is(10, "put", 2, 1, 7).is(7, "take", 2).is(NONE, "soonest", 0, 1).is(8, "put", 2, 2, 5).is(NONE, "soonest", 2, 2);
    }

    private static void soonestInAGap() {
        Check.part("SOONEST: a gap that is just long enough, and one that is not");
        Asked x = Asked.on(FREE).is(5, "put", 0, 3, 0).is(15, "put", 2, 3, 8).is(5, "soonest", 1, 1).is(5, "soonest", 1, 3).is(5, "take", 2);
        x.is(14, "put", 2, 3, 7).is(14, "soonest", 1, 1).is(14, "soonest", 1, 3);
        Asked y = Asked.on("w1;m9;c0,1,3,2;c0,1,3,1;c0,1,3,3;c0,1,3,1;").is(5, "put", 0, 1, 0).is(14, "put", 2, 1, 7).is(20, "put", 3, 1, 17);
        y.is(14, "soonest", 1, 1).is(0, "rename", 1, 1).is(20, "soonest", 1, 1);
    }

    private static void soonestBehindThoseAhead() {
        Check.part("SOONEST: not sooner than those AHEAD of it are done");
        Asked x = Asked.on(TWO_AHEAD).is(NONE, "soonest", 2, 1).is(15, "put", 0, 1, 10).is(NONE, "soonest", 2, 1).is(15, "put", 1, 1, 5);
        x.is(15, "soonest", 2, 1).is(15, "soonest", 2, 3).is(15, "take", 1).is(23, "put", 1, 1, 20).is(23, "soonest", 2, 1);
        x.is(30, "put", 2, 1, 23).is(30, "take", 0).is(0, "soonest", 0, 1);
    }

    private static void soonestAheadOfThoseBehind() {
        Check.part("SOONEST: done when those it is AHEAD of begin; none");
        Asked x = Asked.on(ONE_AHEAD).is(5, "put", 0, 1, 0).is(8, "put", 1, 1, 5).is(8, "take", 0).is(0, "soonest", 0, 1).is(0, "soonest", 0, 3);
        x.is(0, "rename", 0, 1).is(NONE, "soonest", 0, 1).is(1, "rename", 0, 0).is(0, "soonest", 0, 1);
        Asked y = Asked.on("w2;c0,1,1,2;c0,1,1,1;c0,1,1,1;b0,1;").is(5, "put", 0, 1, 0).is(10, "put", 1, 1, 7).is(10, "put", 2, 1, 0).is(10, "take", 0);
        y.is(0, "soonest", 0, 1).is(NONE, "soonest", 0, 2).is(3, "take", 1).is(3, "soonest", 0, 2);
    }

    private static void soonestNone() {
        Check.part("SOONEST. NONE (it is PUT, too)");
        Asked x = Asked.on("m9;c0,1,10,1;c0,1,9,1;c0,1,1,1;b0,2;");
        for (int w = 1; w <= 4; w++) x.is(NONE, "soonest", 0, w).is(0, "soonest", 1, w).is(NONE, "soonest", 2, w);
        x.is(53, "put", 1, 1, 50).is(NONE, "soonest", 1, 1).is(NONE, "soonest", 1, 4).is(0, "take", 1).is(0, "soonest", 1, 1).why();
    }

    private static void soonestBad() {
        Check.part("soonest: BAD");
        Asked x = Asked.on(FREE).bad("soonest", 0, new int[] {0, 1}, NO_CORES_OF_THREE).bad("soonest", 1, new int[] {0, 1}, NO_WIDTHS_OF_THREE);
        Check.part("BAD .. NONE. Of several the first in this order");
        x.is(5, "put", 0, 1, 0).bad("soonest", 1, new int[] {0, 1}, NO_WIDTHS_OF_THREE).is(NONE, "soonest", 0, 3).is(BAD, "soonest", 0, 4);
    }

    private static void soonestAfterTheLastCycle() {
        Check.part("SOONEST behind one that runs beyond the last CYCLE from which a put may be");
        Asked x = Asked.on("w1;c0,1,9,1;c0,1,9,1;b0,1;").is(100002, "put", 0, 1, 99999).is(100002, "soonest", 1, 1);
        x.is(100005, "fill").lies(1, 1, 100002).is(100005, "count", 5).is(BAD, "runs", 100002, 2).is(1, "runs", 99999, 2);
    }

    private static void length() {
        Check.part("LENGTH: the CYCLE behind the last one in which a CORE runs (0: none is PUT)");
        Asked x = Asked.on(FREE).is(0, "count", 5).is(55, "put", 0, 1, 50).is(55, "count", 5).is(55, "put", 1, 1, 0).is(55, "count", 5);
        x.is(57, "put", 2, 1, 50).is(57, "count", 5).is(55, "take", 2).is(3, "take", 0).is(3, "count", 5).is(0, "take", 1).is(0, "count", 5);
    }

    private static void runs() {
        Check.part("In a CYCLE (0 to 99999): LINES taken, DRAWN, which CORES run");
        Asked x = Asked.on("w3;m9;c0,1,2,2;c0,1,3,1;c0,1,4,3;").is(5, "put", 0, 1, 0).is(7, "put", 1, 2, 4).is(100006, "put", 2, 3, 99999);
        int[] cycles = {0, 3, 4, 5, 6, 7, 99998, 99999};
        int[][] all = {{1, 2, 1}, {1, 2, 1}, {3, 5, 3}, {2, 3, 2}, {2, 3, 2}, {0, 0, 0}, {0, 0, 0}, {3, 4, 4}};
        for (int i = 0; i < cycles.length; i++) {
            for (int what = 0; what < 3; what++) x.is(all[i][what], "runs", cycles[i], what);
        }
        Asked none = Asked.on(FREE);
        for (int what = 0; what < 3; what++) none.is(0, "runs", 0, what).is(0, "runs", 99999, what);
        Asked.on("w8;m40;" + "c0,1,1,1;".repeat(6)).is(3, "fill").is(63, "runs", 2, 2).is(6, "runs", 2, 0).is(6, "runs", 2, 1).is(0, "runs", 3, 2);
    }

    private static void runsBad() {
        Check.part("runs: BAD");
        Asked x = Asked.on(FREE).is(5, "put", 0, 1, 0);
        for (int what = 0; what < 3; what++) x.bad("runs", 0, new int[] {0, what}, NO_CYCLES);
        x.bad("runs", 1, new int[] {0, 0}, -1, 3, 4, MIN, MAX).bad("runs", 1, new int[] {99999, 0}, -1, 3, MIN, MAX);
    }

    private static void take() {
        Check.part("TAKEN OFF: LENGTH then. BAD; NO: it is not PUT");
        Asked x = Asked.on(FREE).is(NO, "take", 0).is(NO, "take", 2).bad("take", 0, new int[] {0}, NO_CORES_OF_THREE).is(0, "count", 7);
        x.is(5, "put", 0, 1, 0).is(NO, "take", 1).is(0, "take", 0).is(NO, "take", 0).is(2, "count", 7).lies(0, NONE, NONE);
        x.is(17, "put", 2, 1, 10).is(17, "put", 0, 1, 0).is(5, "take", 2).is(0, "take", 0).why();
        Asked.on("c0,1,1,1;").is(3, "put", 0, 1, 0).is(BAD, "take", 1).is(BAD, "take", -1).is(0, "take", 0);
    }

    private static void takeLeavesThoseBehind() {
        Check.part("TAKEN OFF, it is not PUT (those it is AHEAD of stay)");
        Asked x = Asked.on(IN_A_ROW).is(15, "fill").is(15, "take", 0).is(2, "count", 4).lies(1, 1, 5).lies(2, 1, 8).is(15, "take", 1).lies(2, 1, 8);
        x.refused(1, 1, 5, 1, 0).is(15, "put", 0, 1, 0).is(15, "put", 1, 1, 5).is(8, "take", 2);
    }

    private static void rename() {
        Check.part("Of another KIND: which it was. BAD; NO: it is");
        Asked x = Asked.on("c0,1,1,1;c1,1,1,1;c3,1,1,1;").bad("rename", 0, new int[] {0, 1}, NO_CORES_OF_THREE);
        x.bad("rename", 1, new int[] {0, 1}, -1, 4, 5, -4, MIN, MAX).is(NO, "rename", 0, 0).is(NO, "rename", 1, 1).is(NO, "rename", 2, 3);
        x.is(0, "count", 7).is(0, "rename", 0, 3).is(3, "rename", 0, 2).is(NO, "rename", 0, 2).is(2, "rename", 0, 1).is(1, "rename", 0, 0);
        x.is(4, "count", 7).is(3, "rename", 2, 0).is(0, "core", 2, 0).is(1, "core", 1, 0).is(3, "wrap", 2, 1, 2).why();
    }

    private static void renameRefused() {
        Check.part("A CORE may be of another KIND, if it is not PUT. NO: it is PUT");
        Asked x = Asked.on(FREE).is(5, "put", 0, 1, 0);
        for (int k = 0; k < 4; k++) x.is(NO, "rename", 0, k);
        Check.part("BAD .. NO. Of several the first in this order");
        x.is(BAD, "rename", 0, 4).is(BAD, "rename", 0, -1).is(0, "core", 0, 0).is(1, "count", 7).is(0, "rename", 1, 2).is(0, "take", 0);
        x.is(0, "rename", 0, 1).is(6 + 1, "wrap", 0, 1, 2).is(7, "put", 0, 1, 0).is(NO, "rename", 0, 0).why();
    }
}
