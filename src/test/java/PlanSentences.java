/**
 * The sentences of the document about BOUND, BEST, COSTS, SEEN, count and what is BAD that name
 * a boundary, each with a test of its own: what stands behind Check.part is the sentence.
 * A PLAIN core of 1 pattern and one chain of length l takes 2l+1 cycles at each width.
 */
public final class PlanSentences {
    private static final int BAD = CoreTests.BAD, NO = CoreTests.NO, FULL = CoreTests.FULL, NONE = CoreTests.NONE;
    private static final int MIN = Asked.MIN, MAX = Asked.MAX;
    private static final int[] NO_CORES_OF_THREE = {-1, 3, 5, 6, -7, MIN, MAX};
    private static final int[] NO_WIDTHS_OF_THREE = {0, -1, 4, 8, 9, -3, MIN, MAX};

    /** 5, 3 and 7 cycles on three lines. */
    private static final String FREE = "w3;m9;c0,1,3,2;c0,1,3,1;c0,1,3,3;";

    public static void main(String[] args) {
        constants();
        areaCutUpward();
        areaOfTheLeast();
        pathWithoutRules();
        pathOfRules();
        pathOfTheLeast();
        drawnCutUpward();
        greatest();
        boundWhateverIsPut();
        boundBad();
        best();
        bestOfOneAndOfSix();
        bestOfSeveral();
        bestUnderRules();
        bestNone();
        bestBad();
        bestNothingBeingPut();
        costsNothing();
        costsMore();
        costsLess();
        costsNone();
        costsBad();
        costsOfKinds();
        seenAtMost();
        seenNumbers();
        forget();
        kindsOfNothingSeen();
        kindsOfOne();
        kindsInPlaceOfItsOwn();
        kindsOfSeveral();
        kindsOfLongCycles();
        kindsBad();
        countEach();
        countBad();
        badChangesNothing();
        noChangesNothing();
        askingChangesNothing();
        Check.end();
    }

    private static void constants() {
        Check.part("BAD = -1, NO = -2, FULL = -3, NONE = -4");
        Check.due("BAD", BAD, -1);
        Check.due("NO", NO, -2);
        Check.due("FULL", FULL, -3);
        Check.due("NONE", NONE, -4);
    }

    private static void areaCutUpward() {
        Check.part("AREA: .. of all together, by LINES, cut upward");
        // 9, 10, 11, 12 and 13 by 3; 3 by 8, 7 and 1.
        Asked.on("w3;c0,1,1,4;").is(3, "bound", 0);
        Asked.on("w3;c0,1,1,2;c0,1,1,2;").is(4, "bound", 0);
        Asked.on("w3;c0,1,1,5;").is(4, "bound", 0);
        Asked.on("w3;c0,1,1,2;c0,1,1,3;").is(4, "bound", 0);
        Asked.on("w3;c0,1,1,6;").is(5, "bound", 0);
        Asked.on("w8;c0,1,1,1;").is(1, "bound", 0);
        Asked.on("w1;c0,1,1,1;").is(3, "bound", 0);
        Asked.on("w1;m40;" + "c1,20,30,999999;".repeat(6)).is(13404, "bound", 0).is(2234, "bound", 1).is(10053, "bound", 2).is(13404, "bound", 3);
    }

    private static void areaOfTheLeast() {
        Check.part("AREA: of each CORE the least of WIDTH times what it takes at that");
        // 13, 2 times 7; 109, 2 times 55, 3 times 37, 4 times 37, .. 6 times 19; 60, 2 times 60.
        Asked.on("w1;c0,1,1,33;").is(13, "bound", 0);
        Asked.on("w2;c0,1,1,33;").is(7, "bound", 0);
        Asked.on("w6;c0,1,1,999999;").is(19, "bound", 0);
        Asked.on("w4;c2,1,1,99;").is(15, "bound", 0);
        Asked.on("w2;c3,1,1,33;").is(5, "bound", 0);
    }

    private static void pathWithoutRules() {
        Check.part("PATH: the greatest sum of the least that CORES take, each AHEAD of the next one: a row of one");
        Asked.on(FREE).is(7, "bound", 1);
        Asked.on("c0,1,1,1;").is(3, "bound", 1);
        Asked.on("w8;c0,1,1,4;c0,1,1,1;c0,1,1,3;b1,2;").is(10, "bound", 1);
        Asked.on("w8;c0,1,1,6;c0,1,1,1;c0,1,1,3;b1,2;").is(13, "bound", 1);
    }

    private static void pathOfRules() {
        Check.part("PATH: .. each AHEAD of the next one");
        Asked.on(FREE + "b0,1;b1,2;").is(15, "bound", 1);
        Asked.on(FREE + "b0,1;b0,2;").is(12, "bound", 1);
        Asked.on(FREE + "b0,2;b1,2;").is(12, "bound", 1);
        Asked.on(FREE + "b1,2;b1,2;").is(10, "bound", 1);
        Asked.on(FREE + "b0,1;b1,2;b0,2;").is(15, "bound", 1);
        Asked.on("c0,1,1,1;".repeat(6) + "b0,1;b1,2;b2,3;b3,4;b4,5;b0,5;b0,4;b1,5;").is(18, "bound", 1);
        Asked.on("c0,1,1,1;".repeat(6) + "b0,5;b1,5;b2,5;b3,5;b4,5;").is(6, "bound", 1);
    }

    private static void pathOfTheLeast() {
        Check.part("the least that CORES take (at whatever WIDTH)");
        Asked.on("w1;c0,1,1,111;c0,1,1,1;b0,1;").is(7 + 3, "bound", 1);
        Asked.on("w2;c0,1,1,111;c0,1,1,1;b0,1;").is(5 + 3, "bound", 1);
        Asked.on("w3;c0,1,1,111;c0,1,1,1;b0,1;").is(3 + 3, "bound", 1);
        Asked.on("w8;c0,1,1,111;c2,1,1,1;b0,1;").is(3 + 60, "bound", 1);
    }

    private static void drawnCutUpward() {
        Check.part("DRAWN: of each the least that it takes times what it DRAWS, of all together, by POWER, cut upward");
        // 2 times 5 by 9, 10 and 11; 3 times 3 and 5 by 7 and 8; at three lines 3 times 3, at one 3 times 7.
        Asked.on("m9;c0,1,2,2;").is(2, "bound", 2);
        Asked.on("m10;c0,1,2,2;").is(1, "bound", 2);
        Asked.on("m11;c0,1,2,2;").is(1, "bound", 2);
        Asked.on("m1;c0,1,2,2;").is(10, "bound", 2);
        Asked.on("m7;c0,1,3,1;c0,1,1,2;").is(2, "bound", 2);
        Asked.on("m13;c0,1,3,1;c0,1,1,2;").is(2, "bound", 2);
        Asked.on("m14;c0,1,3,1;c0,1,1,2;").is(1, "bound", 2);
        Asked.on("w3;m1;c0,1,3,111;").is(9, "bound", 2);
        Asked.on("w1;m1;c0,1,3,111;").is(21, "bound", 2);
        Check.part("DRAWN, too, of a CORE that DRAWS more than POWER");
        Asked.on("m9;c0,1,10,1;").is(4, "bound", 2).is(4, "bound", 3);
    }

    private static void greatest() {
        Check.part("the greatest of these");
        Asked.on("w1;m40;c0,1,1,1;c0,1,1,1;").is(6, "bound", 0).is(3, "bound", 1).is(1, "bound", 2).is(6, "bound", 3);
        Asked.on("w8;m40;c0,1,1,1;c0,1,1,1;b0,1;").is(1, "bound", 0).is(6, "bound", 1).is(1, "bound", 2).is(6, "bound", 3);
        Asked.on("w8;m3;c0,1,3,1;c0,1,2,1;").is(1, "bound", 0).is(3, "bound", 1).is(5, "bound", 2).is(5, "bound", 3);
    }

    private static void boundWhateverIsPut() {
        Check.part("BOUND from below, whatever is PUT");
        Asked x = Asked.on(FREE + "b0,1;").is(5, "bound", 0).is(8, "bound", 1).is(5, "bound", 2).is(8, "bound", 3).is(105, "put", 0, 3, 100);
        x.is(5, "bound", 0).is(8, "bound", 1).is(5, "bound", 2).is(8, "bound", 3).is(108, "fill").is(5, "bound", 0).is(8, "bound", 1);
        Check.part("BOUND by the KINDS that the CORES are of");
        x.is(1, "undo").is(0, "rename", 1, 2).is(24, "bound", 0).is(65, "bound", 1).is(24, "bound", 2).is(65, "bound", 3).is(1, "undo").is(8, "bound", 3);
    }

    private static void boundBad() {
        Check.part("bound: BAD");
        Asked.on(FREE).bad("bound", 0, new int[] {0}, -1, 4, 5, -2, MIN, MAX);
    }

    private static void dueBest(Asked x, int length, int... order) {
        x.is(length, "best", -1);
        for (int k = 0; k < order.length; k++) x.is(order[k], "best", k);
        x.bad("best", 0, new int[] {0}, order.length, order.length + 1, -2, MIN, MAX);
    }

    private static void best() {
        Check.part("BEST: .. of all orders of all CORES .. that with least LENGTH");
        // 5, 5 and 8 on two lines: 8 beside 5 and 5.
        Asked x = Asked.on("w2;c0,2,1,1;c0,1,1,2;c0,2,1,2;");
        dueBest(x, 10, 0, 2, 1);
        x.is(13, "fill");
        // 0 takes both lines, if it is first; behind 1 it takes one.
        dueBest(Asked.on("w2;c0,1,1,11;c0,1,1,4;"), 9, 1, 0);
    }

    private static void bestOfOneAndOfSix() {
        Check.part("of all orders of all CORES: of one");
        dueBest(Asked.on("c0,1,1,1;"), 3, 0);
        Check.part("of all orders of all CORES: of six");
        dueBest(Asked.on("w1;" + "c0,1,1,1;".repeat(6)), 18, 0, 1, 2, 3, 4, 5);
        dueBest(Asked.on("w6;" + "c0,1,1,1;".repeat(6)), 3, 0, 1, 2, 3, 4, 5);
        // 0 to 3 take 5 at 1 and 3 at 2, 4 and 5 take 19: with no line idle, by beginning with 4 and
        // with two of the others ahead of 5.
        dueBest(Asked.on("w2;c0,1,1,11;c0,1,1,11;c0,1,1,11;c0,1,1,11;c0,1,1,9;c0,1,1,9;"), 29, 4, 0, 1, 5, 2, 3);
    }

    private static void bestOfSeveral() {
        Check.part("of several the first (by which is first, the lowest, then second, ..)");
        dueBest(Asked.on("w1;c0,1,1,3;c0,1,1,2;c0,1,1,1;"), 15, 0, 1, 2);
        // 2, 0, 1 is as short as 0, 2, 1.
        dueBest(Asked.on("w2;c0,2,1,1;c0,1,1,2;c0,2,1,2;"), 10, 0, 2, 1);
        dueBest(Asked.on("w2;m1;c0,1,1,1;c0,1,1,1;c0,1,1,1;"), 9, 0, 1, 2);
        // 0 and 1 draw too much to run together: 8, in whatever order 2 and 3 run beside them.
        dueBest(Asked.on("w8;m9;c0,1,5,1;c0,1,5,2;c0,1,1,1;c0,1,1,1;"), 8, 0, 1, 2, 3);
        dueBest(Asked.on("w8;m9;c0,1,1,1;c0,1,1,1;c0,1,5,1;c0,1,5,2;"), 8, 0, 1, 2, 3);
        dueBest(Asked.on("w8;m9;c0,1,5,1;c0,1,1,1;c0,1,5,2;c0,1,1,1;c0,1,1,1;b0,4;"), 8, 0, 1, 2, 3, 4);
    }

    private static void bestUnderRules() {
        Check.part("in which none is behind one it is AHEAD of");
        dueBest(Asked.on("w2;c0,1,1,11;c0,1,1,4;b0,1;"), 12, 0, 1);
        dueBest(Asked.on("w1;c0,1,1,1;c0,1,1,1;c0,1,1,1;b0,2;b1,2;"), 9, 0, 1, 2);
        dueBest(Asked.on("w2;c0,2,1,1;c0,1,1,2;c0,2,1,2;b1,2;"), 13, 0, 1, 2);
        // 1 must wait for 0; 2 is best put first.
        dueBest(Asked.on("w2;c0,1,1,11;c0,1,1,1;c0,1,1,4;b0,1;"), 9, 2, 0, 1);
    }

    private static void bestNone() {
        Check.part("none (a CORE DRAWS more than POWER)");
        Asked x = Asked.on("m9;c0,1,9,1;c0,1,1,1;c0,1,10,1;b0,1;");
        for (int k = -1; k < 3; k++) x.is(NONE, "best", k);
        Asked.on("m9;c0,1,9,1;c0,1,9,1;").is(6, "best", -1);
        Asked.on("m1;c0,1,2,1;").is(NONE, "best", -1).is(NONE, "best", 0);
        Check.part("BAD .. NONE. Of several the first in this order");
        x.bad("best", 0, new int[] {0}, 3, 4, 6, -2, MIN, MAX);
        x.is(0, "rename", 2, 1).is(NONE, "best", -1).is(4, "put", 0, 1, 1).is(NONE, "best", 0);
    }

    private static void bestBad() {
        Check.part("best: BAD (k as many as there are CORES, more, too)");
        Asked.on("c0,1,1,1;").is(0, "best", 0).is(BAD, "best", 1).is(BAD, "best", 2).is(BAD, "best", -2);
        Asked.on("c0,1,1,1;".repeat(6)).is(5, "best", 5).is(BAD, "best", 6).is(BAD, "best", 7).is(BAD, "best", MAX).is(BAD, "best", MIN);
    }

    private static void bestNothingBeingPut() {
        Check.part("BEST, nothing being PUT");
        Asked x = Asked.on("w2;c0,2,1,1;c0,1,1,2;c0,2,1,2;").is(505, "put", 0, 2, 500).is(505, "put", 1, 2, 0);
        dueBest(x, 10, 0, 2, 1);
        x.is(2, "count", 4).is(2, "count", 7).lies(0, 2, 500).is(505, "count", 5).why();
        Check.part("BEST by the KINDS that the CORES are of");
        x.is(0, "rename", 2, 2);
        dueBest(x, 60, 0, 2, 1);
        x.is(2, "undo");
        dueBest(x, 10, 0, 2, 1);
        Check.part("BEST by the KINDS that the CORES are of: by which of them is of which");
        Asked y = Asked.on("w1;c0,1,1,1;c0,2,1,2;").is(0, "rename", 0, 1).is(12, "best", -1).is(1, "rename", 0, 0).is(0, "rename", 1, 1);
        y.is(15, "best", -1).is(1, "rename", 1, 0).is(11, "best", -1).is(0, "rename", 1, 1).is(0, "rename", 0, 1).is(16, "best", -1);
    }

    private static void costsNothing() {
        Check.part("COSTS of a rule: the least LENGTH less what it is without that rule, and 100000: as much");
        Asked.on("w1;c0,1,1,1;c0,1,1,2;b0,1;").is(100000, "costs", 0);
        Asked.on("c0,1,1,1;c0,1,1,2;b0,1;b0,1;").is(8, "best", -1).is(100000, "costs", 0).is(100000, "costs", 1);
    }

    private static void costsMore() {
        Check.part("COSTS of a rule: the least LENGTH less what it is without that rule, and 100000: more");
        Asked x = Asked.on(FREE + "b0,1;b1,2;").is(15, "best", -1).is(100005, "costs", 0).is(100007, "costs", 1);
        dueBest(x, 15, 0, 1, 2);
        Asked y = Asked.on("w2;c0,1,1,11;c0,1,1,4;b0,1;").is(100003, "costs", 0);
        dueBest(y, 12, 0, 1);
        Asked six = Asked.on("w8;" + "c0,1,1,1;".repeat(6) + "b0,4;b1,4;b2,4;b3,4;b0,4;b0,5;b1,5;b4,5;");
        for (int b = 0; b < 7; b++) six.is(100000, "costs", b);
        six.is(100003, "costs", 7).is(9, "best", -1);
    }

    private static void costsLess() {
        Check.part("COSTS of a rule: the least LENGTH less what it is without that rule, and 100000: less");
        // 0, 2, 1 takes 38, since 2 waits for both lines; without the rule it takes one, and 1 waits.
        Asked x = Asked.on("w3;m9;c0,3,4,42;c0,2,1,354;c0,2,2,54;b0,2;").is(99998, "costs", 0);
        dueBest(x, 38, 0, 2, 1);
        dueBest(Asked.on("w3;m9;c0,3,4,42;c0,2,1,354;c0,2,2,54;"), 40, 2, 0, 1);
    }

    private static void costsNone() {
        Check.part("COSTS; none (a CORE DRAWS more than POWER)");
        Asked x = Asked.on("m9;c0,1,1,1;c0,1,10,1;b0,1;").is(NONE, "costs", 0);
        Check.part("BAD .. NONE. Of several the first in this order");
        x.bad("costs", 0, new int[] {0}, 1, 2, -1, MIN, MAX);
        Asked.on("m9;c0,1,1,1;c0,1,9,1;b0,1;").is(100000, "costs", 0);
    }

    private static void costsBad() {
        Check.part("costs: BAD (rules: such as there are)");
        Asked.on(FREE).bad("costs", 0, new int[] {0}, 0, 1, -1, MIN, MAX);
        Asked.on(FREE + "b0,1;").is(100001, "costs", 0).bad("costs", 0, new int[] {0}, 1, 2, 8, -1, -2, MIN, MAX);
        Asked.on(FREE + "b0,1;".repeat(8)).is(100000, "costs", 7).bad("costs", 0, new int[] {0}, 8, 9, -1, MIN, MAX);
    }

    private static void costsOfKinds() {
        Check.part("COSTS by the KINDS that the CORES are of");
        Asked x = Asked.on(FREE + "b0,1;").is(100001, "costs", 0).is(0, "rename", 1, 2).is(100005, "costs", 0).is(0, "undo").is(100001, "costs", 0);
        x.is(0, "rename", 0, 2).is(100003, "costs", 0).is(8, "put", 2, 1, 1).is(100003, "costs", 0);
    }

    private static void seenAtMost() {
        Check.part("SEEN (6 at most). FULL");
        Asked x = Asked.on(FREE);
        for (int i = 1; i <= 6; i++) x.is(i, "seen", 2, 3, 7).is(i, "count", 6);
        x.is(FULL, "seen", 2, 3, 7).is(FULL, "seen", 0, 1, 1).is(6, "count", 6).is(15, "kinds", 0).is(1, "kinds", 2);
        Check.part("BAD .. FULL. Of several the first in this order");
        x.bad("seen", 0, new int[] {0, 1, 1}, NO_CORES_OF_THREE).bad("seen", 1, new int[] {0, 1, 1}, NO_WIDTHS_OF_THREE);
        x.bad("seen", 2, new int[] {0, 1, 1}, 0, -1, 10000, MIN, MAX).is(6, "forget").is(1, "seen", 0, 1, 5);
    }

    private static void seenNumbers() {
        Check.part("a CORE at a WIDTH takes T (1 to 9999). BAD");
        Asked x = Asked.on(FREE).bad("seen", 0, new int[] {0, 1, 1}, NO_CORES_OF_THREE).bad("seen", 1, new int[] {0, 1, 1}, NO_WIDTHS_OF_THREE);
        x.bad("seen", 2, new int[] {0, 1, 1}, 0, -1, 10000, 10001, -9999, MIN, MAX).is(0, "count", 6).is(15, "kinds", 0);
        x.is(1, "seen", 0, 1, 1).is(2, "seen", 0, 3, 9999).is(3, "seen", 2, 3, 1).is(3, "count", 6);
    }

    private static void forget() {
        Check.part("forget: Nothing is SEEN: how many were");
        Asked x = Asked.on(FREE).is(0, "forget").is(1, "seen", 0, 1, 9999).is(0, "kinds", 0).is(1, "forget").is(15, "kinds", 0).is(0, "forget");
        for (int i = 1; i <= 6; i++) x.is(i, "seen", i % 3, 1, 9999);
        x.is(6, "forget").is(0, "count", 6).is(1, "seen", 0, 1, 5).is(1, "kinds", 0).is(15, "kinds", 1);
    }

    private static void kindsOfNothingSeen() {
        Check.part("KINDS of one .. by which all that is SEEN of it is so: nothing is");
        Asked x = Asked.on(FREE);
        for (int c = 0; c < 3; c++) x.is(15, "kinds", c);
        Check.part("all that is SEEN of it: not of another");
        x.is(1, "seen", 1, 1, 9999).is(15, "kinds", 0).is(0, "kinds", 1).is(15, "kinds", 2);
    }

    private static void kindsOfOne() {
        Check.part("KINDS of one (bits of 0 to 3)");
        // PLAIN 49, SLOW 85, WARM 60, QUICK 43.
        int[] takes = {49, 85, 60, 43};
        for (int k = 0; k < 4; k++) {
            Asked x = Asked.on("c0,4,1,9;").is(1, "seen", 0, 1, takes[k]).is(1 << k, "kinds", 0).is(2, "seen", 0, 4, takes[k]).is(1 << k, "kinds", 0);
            x.is(2, "forget").is(1, "seen", 0, 1, takes[k] + 1).is(0, "kinds", 0).is(1, "forget").is(1, "seen", 0, 1, takes[k] - 1).is(0, "kinds", 0);
        }
        Check.part("KINDS of one: PLAIN and WARM take as much from 60 on");
        Asked.on("c0,6,1,9;").is(1, "seen", 0, 1, 69).is(5, "kinds", 0);
    }

    private static void kindsInPlaceOfItsOwn() {
        Check.part("KINDS of one .., in place of its own");
        Asked x = Asked.on("c0,4,1,9;").is(1, "seen", 0, 1, 85);
        x.is(2, "kinds", 0).is(0, "rename", 0, 1).is(2, "kinds", 0).is(1, "rename", 0, 3).is(2, "kinds", 0).is(43, "put", 0, 1, 0).is(2, "kinds", 0);
    }

    private static void kindsOfSeveral() {
        Check.part("by which all that is SEEN of it is so");
        // Loads 14 and 9: PLAIN 104 and 69, SLOW 188 and 123, WARM as PLAIN, QUICK 94 and 62.
        Asked x = Asked.on("w2;c0,6,1,95;").is(1, "seen", 0, 1, 104).is(5, "kinds", 0).is(2, "seen", 0, 2, 69).is(5, "kinds", 0);
        x.is(3, "seen", 0, 2, 123).is(0, "kinds", 0).is(3, "forget").is(1, "seen", 0, 2, 62).is(8, "kinds", 0).is(2, "seen", 0, 1, 62).is(0, "kinds", 0);
        Asked y = Asked.on("w2;c0,6,1,95;");
        for (int i = 1; i <= 5; i++) y.is(i, "seen", 0, 1, 188);
        y.is(2, "kinds", 0).is(6, "seen", 0, 2, 124).is(0, "kinds", 0);
    }

    private static void kindsOfLongCycles() {
        Check.part("KINDS of the dearest and of the cheapest CORE");
        Asked x = Asked.on("w1;c1,20,1,999999;c2,1,1,1;").is(1, "seen", 0, 1, 2234).is(2, "kinds", 0).is(2, "seen", 1, 1, 2).is(8, "kinds", 1);
        x.is(2, "forget").is(1, "seen", 0, 1, 1154).is(5, "kinds", 0).is(2, "seen", 1, 1, 1).is(0, "kinds", 1);
    }

    private static void kindsBad() {
        Check.part("kinds: BAD");
        Asked.on(FREE).bad("kinds", 0, new int[] {0}, NO_CORES_OF_THREE);
        Asked.on("c0,1,1,1;").is(15, "kinds", 0).is(BAD, "kinds", 1);
        Asked.on("c0,1,1,1;".repeat(6)).is(15, "kinds", 5).is(BAD, "kinds", 6);
    }

    private static void countEach() {
        Check.part("count: 0 CORES, 1 rules, 2 LINES, 3 POWER, 4 that are PUT, 5 LENGTH, 6 SEEN, 7 that can be UNDONE, 8 KEPT, 9 letters");
        Asked least = Asked.on("w1;m1;c0,1,1,1;");
        int[] none = {1, 0, 1, 1, 0, 0, 0, 0, 0, 0};
        for (int what = 0; what < 10; what++) least.is(none[what], "count", what);
        Asked most = Asked.on("w8;m40;" + "c0,1,1,1;".repeat(6) + "b0,1;".repeat(8)).is(6, "fill").is(1, "keep").is(2, "keep");
        for (int i = 1; i <= 8; i++) most.is(6, "fill");
        for (int i = 1; i <= 6; i++) most.is(i, "seen", 0, 1, 3);
        for (int i = 1; i <= 200; i++) most.is(i, "write", 'x');
        int[] all = {6, 8, 8, 40, 6, 6, 6, 8, 2, 200};
        for (int what = 0; what < 10; what++) most.is(all[what], "count", what);
        Check.part("count: what is told is none of what is only written");
        most.is(200, "wipe").written("w2;m3;c0,1,1,1;").is(6, "count", 0).is(8, "count", 1).is(8, "count", 2).is(40, "count", 3);
    }

    private static void countBad() {
        Check.part("count: BAD");
        Asked.on(FREE).bad("count", 0, new int[] {0}, -1, 10, 11, -2, MIN, MAX);
    }

    /** Something of everything: put, undone, kept, seen, written, and why. */
    private static Asked busy() {
        Asked x = Asked.on(FREE + "b0,1;").is(0, "rename", 2, 1).is(5, "put", 0, 1, 0).is(1, "keep").is(1, "seen", 0, 1, 3).is(1, "write", 'w');
        return x.refused(1, 1, 2, 1, 0);
    }

    private static void badChangesNothing() {
        Check.part("BAD: .. nothing changes then");
        Asked x = busy().bad("write", 0, new int[] {0}, 31, 127, MIN, MAX).bad("core", 0, new int[] {0, 0}, NO_CORES_OF_THREE).bad("core", 1, new int[] {0, 0}, -1, 7);
        x.bad("chain", 0, new int[] {0, 0}, NO_CORES_OF_THREE).is(BAD, "chain", 0, -1).bad("wrap", 0, new int[] {0, 1, 2}, NO_CORES_OF_THREE);
        x.bad("wrap", 1, new int[] {0, 1, 2}, NO_WIDTHS_OF_THREE).bad("line", 0, new int[] {0, 1, 0}, NO_CORES_OF_THREE);
        x.bad("line", 1, new int[] {0, 1, 0}, NO_WIDTHS_OF_THREE).bad("put", 0, new int[] {1, 1, 5}, NO_CORES_OF_THREE);
        x.bad("put", 1, new int[] {1, 1, 5}, NO_WIDTHS_OF_THREE).bad("put", 2, new int[] {1, 1, 5}, -1, 100000, MIN, MAX);
        x.bad("take", 0, new int[] {0}, NO_CORES_OF_THREE).bad("rename", 0, new int[] {1, 2}, NO_CORES_OF_THREE);
        x.bad("rename", 1, new int[] {1, 2}, -1, 4, MIN, MAX).is(BAD, "why", -2).bad("soonest", 0, new int[] {1, 1}, NO_CORES_OF_THREE);
        x.bad("soonest", 1, new int[] {1, 1}, NO_WIDTHS_OF_THREE).is(BAD, "runs", -1, 0).is(BAD, "runs", 0, 3).is(BAD, "bound", 4);
        x.is(BAD, "best", 3).is(BAD, "best", -2).is(BAD, "costs", 1).is(BAD, "costs", -1).bad("seen", 0, new int[] {0, 1, 1}, NO_CORES_OF_THREE);
        x.bad("seen", 1, new int[] {0, 1, 1}, NO_WIDTHS_OF_THREE).is(BAD, "seen", 0, 1, 0).is(BAD, "seen", 0, 1, 10000);
        x.bad("kinds", 0, new int[] {0}, NO_CORES_OF_THREE).is(BAD, "count", 10).is(BAD, "count", -1);
        x.looksLike(busy()).why(11, 1, 0).is(1, "undo").is(0, "undo").is(NO, "undo").is(0, "back").lies(0, 1, 0).is(1, "core", 2, 0);
    }

    private static void noChangesNothing() {
        Check.part("NO, FULL, NONE: nothing changes then, but WHY");
        Asked x = busy().is(2, "keep").is(FULL, "keep").is(NO, "put", 0, 2, 9).is(NO, "take", 1).is(NO, "take", 2).is(NO, "rename", 0, 1);
        x.is(NO, "rename", 2, 1).is(NO, "rename", 1, 0).is(NO, "lay").is(NONE, "soonest", 0, 1).is(NONE, "chain", 0, 1).is(NONE, "line", 0, 1, 1);
        x.why(11, 1, 0).refused(1, 1, 4, 1, 0).refused(2, 3, 4, 3, 4).looksLike(busy().is(2, "keep")).why(12, 3, 4);
        x.is(1, "undo").is(0, "undo").is(NO, "undo").is(1, "back").is(0, "back").is(NO, "back").is(NO, "undo").lies(0, 1, 0);
    }

    private static void askingChangesNothing() {
        Check.part("Nothing is promised beyond the answers and state changes described: what is asked changes nothing");
        Asked x = busy();
        for (int again = 0; again < 2; again++) {
            x.is(0, "fault").is(0, "core", 0, 5).is(2, "core", 0, 6).is(2, "chain", 0, 0).is(2, "wrap", 0, 3, 1).is(0, "line", 0, 3, 0);
            x.is(3, "why", -1).is(5, "soonest", 1, 1).is(1, "runs", 4, 2).is(6, "bound", 0).is(10, "bound", 3).is(100000, "costs", 0);
            x.is(10, "best", -1).is(1, "best", 1).is(0, "kinds", 0).is(2, "count", 7);
        }
        x.looksLike(busy()).why(11, 1, 0).is(1, "undo").is(0, "undo").is(NO, "undo").is(0, "back").is(NO, "back").lies(0, 1, 0);
    }
}
