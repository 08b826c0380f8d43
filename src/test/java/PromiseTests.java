/**
 * Each promise of the document by hand: ordinary inputs, the edges that it names, and wrong
 * inputs. A core of 1 pattern and one chain of length l that is PLAIN takes 2l+1 cycles.
 */
public final class PromiseTests {
    private static final int BAD = CoreTests.BAD, NO = CoreTests.NO, FULL = CoreTests.FULL, NONE = CoreTests.NONE;

    /** Cores that take 3, 5, 7 and 3 cycles at each width. */
    private static final String SMALL = "w3;m10;c0,1,4,1;c0,1,4,2;c0,1,4,3;c0,1,7,1;b0,1;b0,3;b2,3;";
    private static final int MIN = Integer.MIN_VALUE, MAX = Integer.MAX_VALUE;

    public static void main(String[] args) {
        newObject();
        texts();
        faults();
        faultsOfLists();
        lay();
        layStartsAnew();
        core();
        chain();
        wrap();
        line();
        put();
        putRefused();
        take();
        fill();
        fillStuck();
        rename();
        undo();
        why();
        soonest();
        runs();
        bound();
        best();
        costs();
        seen();
        kinds();
        keepAndBack();
        count();
        Check.end();
    }

    private static void newObject() {
        Check.part("promise 1");
        CoreTests x = new CoreTests();
        Check.dueCounts(x, 5, 2, 4, 20, 0, 0, 0, 0, 0, 0);
        int[][] told = {{0, 5, 6, 4}, {1, 4, 9, 2}, {2, 9, 4, 4}, {3, 8, 11, 4}, {0, 12, 5, 2}};
        int[] chains = {9433, 72, 5551, 8643, 31};
        for (int c = 0; c < 5; c++) {
            for (int what = 0; what < 4; what++) Check.due("core(" + c + ", " + what + ")", x.core(c, what), told[c][what]);
            Check.due("core(" + c + ", 4)", x.core(c, 4), NONE);
            Check.due("core(" + c + ", 5)", x.core(c, 5), NONE);
            int row = 0;
            for (int i = 0; i < told[c][3]; i++) row = 10 * row + x.chain(c, i);
            Check.due("chains of " + c, row, chains[c]);
        }
        Check.due("fault()", x.fault(), NONE);
        Check.dueWhy(x);
        Check.due("undo()", x.undo(), NO);
        Check.due("back()", x.back(), NO);
        Check.due("kinds(0)", x.kinds(0), 15);
        Check.due("BAD", BAD, -1);
        Check.due("NO", NO, -2);
        Check.due("FULL", FULL, -3);
        Check.due("NONE", NONE, -4);
        // Rule 1 of it: 1 is ahead of 4, and 0 of 3.
        Check.due("put(3)", x.put(3, 1, 0), NO);
        Check.dueWhy(x, 13, 1, 0);
        Check.due("put(4)", x.put(4, 1, 0), NO);
        Check.dueWhy(x, 14, 1, 1);
    }

    private static void texts() {
        Check.part("promise 2");
        CoreTests x = new CoreTests();
        for (int letter : new int[] {31, 127, -1, 0, 256 + 65, MIN, MAX}) Check.due("write(" + letter + ")", x.write(letter), BAD);
        Check.due("count(9)", x.count(9), 0);
        Check.due("write(32)", x.write(32), 1);
        Check.due("write(126)", x.write(126), 2);
        for (int i = 3; i <= 200; i++) Check.due("write, the " + i + "th", x.write('x'), i);
        Check.due("write, the 201st", x.write('x'), FULL);
        Check.due("write(31) to a full text", x.write(31), BAD);
        Check.due("count(9)", x.count(9), 200);
        Check.part("promise 3");
        Check.due("wipe()", x.wipe(), 200);
        Check.due("count(9)", x.count(9), 0);
        Check.due("wipe()", x.wipe(), 0);
        Check.due("write behind wipe", x.write('m'), 1);
        Check.due("count(0)", x.count(0), 5);
    }

    private static void dueFault(String text, int place) {
        CoreTests x = new CoreTests();
        Check.written(x, text);
        Check.due("fault() of " + text, x.fault(), place);
        if (place != NONE) {
            Check.due("lay() of " + text, x.lay(), NO);
            Check.due("count(0) behind it", x.count(0), 5);
        }
        Check.due("count(9) of " + text, x.count(9), text.length());
    }

    private static void faults() {
        Check.part("promise 4");
        dueFault("", NONE);
        dueFault("w1;", NONE);
        dueFault("w8;", NONE);
        dueFault("w08;m01;c03,01,01,1;c00,20,30,999999;b00,01;", NONE);
        for (String text : new String[] {"w0;", "w00;", "w9;", "w;", "w", "w4", "w4,", "w 4;", "w-1;", "w004;", "w4 ;", "W4;",
            "m0;", "m41;", "m100;", "m;", "m", "m5", "m5,6;", ";", " ", "x1;", "4;", "cc", "c", "c0;", "c0,1;", "c0,1,1;",
            "c4,1,1,1;", "c0,0,1,1;", "c0,21,1,1;", "c0,1,0,1;", "c0,1,31,1;", "c0,1,1,;", "c0,1,1,0;", "c0,1,1,10;",
            "c0,1,1,1234567;", "c0,1,1,1", "c0,1,1,1,", "c0,1,1,1,2;", "c0;1,1,1;", "c0,1;1,1;", "c,1,1,1;", "c0,,1,1;",
            "c0,1,,1;", "c0,100,1,1;", "c000,1,1,1;", "c0,1,1,1 ;", "c0, 1,1,1;", "b0,1;", "b0,0;", "b"}) {
            dueFault(text, 0);
            if (text.charAt(0) != 'w') dueFault("w2;m7;" + text, 6);
        }
        dueFault("m40;", NONE);
        dueFault("m1;m40;m9;", NONE);
        dueFault("w2;w2;", 3);
        dueFault("m5;w2;", 3);
        dueFault("c0,1,1,1;w2;", 9);
        dueFault("w2;m5;;", 6);
        dueFault("w2; m5;", 3);
        dueFault("w2;m50;x", 3);
        dueFault("c0,1,1,123456;c3,20,30,9;", NONE);
    }

    private static void faultsOfLists() {
        String six = "c0,1,1,1;c0,1,1,1;c0,1,1,1;c0,1,1,1;c0,1,1,1;c0,1,1,1;";
        dueFault(six, NONE);
        dueFault(six + "c0,1,1,1;", 54);
        String eight = "b0,1;b0,1;b0,2;b1,2;b0,5;b3,5;b4,5;b0,1;";
        dueFault(six + eight, NONE);
        dueFault(six + eight + "b0,1;", 94);
        dueFault(six + "b0,6;", 54);
        dueFault(six + "b5,4;", 54);
        dueFault(six + "b3,3;", 54);
        dueFault(six + "b0;", 54);
        dueFault(six + "b0,1,2;", 54);
        dueFault(six + "b0,1", 54);
        dueFault(six + "b,1;", 54);
        dueFault(six + "b0,;", 54);
        dueFault("c0,1,1,1;b0,1;c0,1,1,1;", 9);
        dueFault("c0,1,1,1;c0,1,1,1;b0,1;c0,1,1,1;b1,2;m3;", NONE);
    }

    private static void lay() {
        Check.part("promise 5");
        CoreTests x = new CoreTests();
        Check.due("lay() of nothing", x.lay(), NO);
        Check.written(x, "w4;m20;");
        Check.due("lay() without cores", x.lay(), NO);
        Check.dueCounts(x, 5, 2, 4, 20);
        Check.written(x, "m30;c2,7,3,12;m5;");
        Check.due("lay()", x.lay(), 1);
        Check.dueCounts(x, 1, 0, 4, 5, 0, 0, 0, 0, 0, 24);
        Check.due("core(0, 0)", x.core(0, 0), 2);
        Check.due("core(0, 1)", x.core(0, 1), 7);
        Check.due("core(0, 2)", x.core(0, 2), 3);
        Check.due("core(0, 3)", x.core(0, 3), 2);
        Check.due("core(1, 0)", x.core(1, 0), BAD);
        CoreTests y = Check.laid("c0,1,1,1;c1,2,3,4;b0,1;b0,1;", 2);
        Check.dueCounts(y, 2, 2, 4, 20);
        Check.laid("w8;c0,1,1,1;", 1).wrap(0, 8, 0);
    }

    private static void layStartsAnew() {
        CoreTests x = Check.laid(SMALL, 4);
        x.put(0, 1, 0);
        x.put(1, 1, 0);
        x.rename(2, 1);
        x.seen(0, 1, 3);
        x.keep();
        Check.dueWhy(x, 11, 1, 0);
        Check.dueCounts(x, 4, 3, 3, 10, 1, 3, 1, 2, 1, 0);
        Check.written(x, "c0,1,1,1;;");
        Check.due("lay() with a fault", x.lay(), NO);
        Check.dueWhy(x, 11, 1, 0);
        Check.dueCounts(x, 4, 3, 3, 10, 1, 3, 1, 2, 1, 10);
        // 2 is SLOW by now and takes 10, and 3 waits for it.
        Check.due("best(-1)", x.best(-1), 13);
        x.wipe();
        Check.written(x, SMALL);
        Check.due("lay()", x.lay(), 4);
        Check.dueCounts(x, 4, 3, 3, 10, 0, 0, 0, 0, 0, SMALL.length());
        Check.dueWhy(x);
        Check.due("core(2, 0)", x.core(2, 0), 0);
        Check.due("undo()", x.undo(), NO);
        Check.due("back()", x.back(), NO);
        x.wipe();
        Check.written(x, "w1;m3;c0,1,1,1;c0,1,1,1;");
        Check.due("lay()", x.lay(), 2);
        Check.due("best(-1) of the new one", x.best(-1), 6);
        Check.due("put(1)", x.put(1, 1, 0), 3);
        // Of the same kinds, but another chip; without w and m there are 4 and 20 again.
        x.wipe();
        Check.written(x, "c0,1,10,1;c0,1,11,2;b0,1;");
        x.lay();
        Check.dueCounts(x, 2, 1, 4, 20);
        Check.due("best(-1) of the third", x.best(-1), 8);
        Check.due("costs(0) of the third", x.costs(0), 100000);
        x.wipe();
        Check.written(x, "c0,1,10,1;c0,1,10,3;b0,1;");
        x.lay();
        Check.due("best(-1) of the fourth", x.best(-1), 10);
        Check.due("costs(0) of the fourth", x.costs(0), 100003);
    }

    private static void core() {
        Check.part("promise 6");
        CoreTests x = Check.laid("w8;m40;c0,2,3,222222;c2,1,30,9;c3,20,1,5432;c2,3,5,666;", 4);
        // Loads 12, 6, 4, 4, 4, 2, 2, 2.
        Check.due("STAIRS of 0", x.core(0, 6), 2 + 4 + 8 + 64);
        Check.due("STAIRS of a core of one chain", x.core(1, 6), 2);
        // Loads 14, 7, 5, 5.
        Check.due("STAIRS of 2", x.core(2, 6), 2 + 4 + 8);
        // Loads 18, 12, 6: 75, 51 but 60 at least, and 60 again.
        Check.due("STAIRS of 3", x.core(3, 6), 2 + 4);
        Check.due("put", x.put(1, 5, 77), 137);
        Check.due("core(1, 4)", x.core(1, 4), 5);
        Check.due("core(1, 5)", x.core(1, 5), 77);
        Check.due("core(0, 4)", x.core(0, 4), NONE);
        Check.due("core(0, 5)", x.core(0, 5), NONE);
        x.put(0, 1, 0);
        Check.due("core(0, 5) put from 0 on", x.core(0, 5), 0);
        Check.due("core(1, 2)", x.core(1, 2), 30);
        x.rename(3, 0);
        Check.due("core(3, 0)", x.core(3, 0), 0);
        Check.due("STAIRS of 3, now PLAIN", x.core(3, 6), 2 + 4 + 8);
        for (int c : new int[] {-1, 4, 6, MIN, MAX}) Check.due("core(" + c + ", 0)", x.core(c, 0), BAD);
        for (int what : new int[] {-1, 7, MIN, MAX}) Check.due("core(0, " + what + ")", x.core(0, what), BAD);
    }

    private static void chain() {
        Check.part("promise 7");
        CoreTests x = Check.laid("c0,1,1,914253;c0,1,1,7;", 2);
        int[] row = {9, 1, 4, 2, 5, 3};
        for (int i = 0; i < 6; i++) Check.due("chain(0, " + i + ")", x.chain(0, i), row[i]);
        Check.due("chain(0, 6)", x.chain(0, 6), NONE);
        Check.due("chain(0, MAX)", x.chain(0, MAX), NONE);
        Check.due("chain(1, 0)", x.chain(1, 0), 7);
        Check.due("chain(1, 1)", x.chain(1, 1), NONE);
        for (int c : new int[] {-1, 2, MIN, MAX}) Check.due("chain(" + c + ", 0)", x.chain(c, 0), BAD);
        Check.due("chain(0, -1)", x.chain(0, -1), BAD);
        Check.due("chain(0, MIN)", x.chain(0, MIN), BAD);
        Check.due("chain(2, 9)", x.chain(2, 9), BAD);
    }

    private static void dueWraps(CoreTests x, int c, int what, int... answers) {
        for (int w = 1; w <= answers.length; w++) Check.due("wrap(" + c + ", " + w + ", " + what + ")", x.wrap(c, w, what), answers[w - 1]);
        Check.due("wrap at one width more", x.wrap(c, answers.length + 1, what), BAD);
    }

    private static void wrap() {
        Check.part("promise 8");
        CoreTests x = Check.laid("w6;c0,5,1,33222;c0,5,1,5;c1,3,1,94;c2,3,1,94;c3,3,1,94;c3,4,1,21;", 6);
        // The longest first lays 3 and 2 and 2 on one line, where 3 and 3, 2 and 2 and 2 is even.
        dueWraps(x, 0, 0, 12, 7, 5, 4, 3, 3);
        dueWraps(x, 0, 1, 12, 6, 5, 4, 3, 3);
        dueWraps(x, 0, 2, 5 * 13 + 12, 5 * 8 + 7, 5 * 6 + 5, 5 * 5 + 4, 5 * 4 + 3, 5 * 4 + 3);
        dueWraps(x, 1, 0, 5, 5, 5, 5, 5, 5);
        dueWraps(x, 1, 1, 5, 5, 5, 5, 5, 5);
        dueWraps(x, 2, 2, 3 * 14 + 13 + 39, 3 * 10 + 9 + 27, 66, 66, 66, 66);
        dueWraps(x, 3, 2, 60, 60, 60, 60, 60, 60);
        // SLOW 94 and 66: half of 95 and of 67, cut.
        dueWraps(x, 4, 2, 47, 33, 33, 33, 33, 33);
        // SLOW 16 + 3 + 12 and 12 + 2 + 8: half of 32 and of 23, cut.
        dueWraps(x, 5, 2, 16, 11, 11, 11, 11, 11);
        x.rename(3, 0);
        dueWraps(x, 3, 2, 55, 39, 39, 39, 39, 39);
        dueWraps(x, 3, 0, 13, 9, 9, 9, 9, 9);
        CoreTests y = Check.laid("w2;c2,5,1,9;c2,6,1,9;c2,9,1,5;c1,20,1,999999;", 4);
        CoreTests ideal = Check.laid("w4;c0,1,1,54333;c0,1,1,333222;c0,1,1,345;", 3);
        dueWraps(ideal, 0, 0, 18, 10, 7, 6);
        dueWraps(ideal, 0, 1, 18, 9, 7, 6);
        dueWraps(ideal, 1, 0, 15, 8, 5, 5);
        dueWraps(ideal, 1, 1, 15, 8, 5, 5);
        dueWraps(ideal, 2, 1, 12, 7, 5, 5);
        dueWraps(y, 0, 2, 60, 60);
        dueWraps(y, 1, 2, 69, 69);
        dueWraps(y, 2, 2, 60, 60);
        dueWraps(y, 3, 2, 2234, 1127);
        for (int c : new int[] {-1, 4, MIN, MAX}) Check.due("wrap(" + c + ", 1, 0)", y.wrap(c, 1, 0), BAD);
        for (int w : new int[] {-1, 0, 3, 9, MIN, MAX}) Check.due("wrap(0, " + w + ", 0)", y.wrap(0, w, 0), BAD);
        for (int what : new int[] {-1, 3, MIN, MAX}) Check.due("wrap(0, 1, " + what + ")", y.wrap(0, 1, what), BAD);
    }

    private static void dueLines(CoreTests x, int c, int w, int... lines) {
        for (int i = 0; i < lines.length; i++) Check.due("line(" + c + ", " + w + ", " + i + ")", x.line(c, w, i), lines[i]);
        Check.due("line of a chain more", x.line(c, w, lines.length), NONE);
    }

    private static void line() {
        Check.part("promise 9");
        CoreTests x = Check.laid("w5;c0,5,1,33222;c0,5,1,23223;c0,5,1,135;c0,1,1,9;", 4);
        dueLines(x, 0, 1, 0, 0, 0, 0, 0);
        dueLines(x, 0, 2, 0, 1, 0, 1, 0);
        dueLines(x, 0, 3, 0, 1, 2, 2, 0);
        dueLines(x, 0, 5, 0, 1, 2, 3, 4);
        dueLines(x, 1, 2, 0, 0, 1, 0, 1);
        dueLines(x, 1, 3, 2, 0, 2, 0, 1);
        dueLines(x, 2, 2, 1, 1, 0);
        dueLines(x, 2, 3, 2, 1, 0);
        dueLines(x, 3, 5, 0);
        for (int c : new int[] {-1, 4, MIN, MAX}) Check.due("line(" + c + ", 1, 0)", x.line(c, 1, 0), BAD);
        for (int w : new int[] {-1, 0, 6, MIN, MAX}) Check.due("line(0, " + w + ", 0)", x.line(0, w, 0), BAD);
        Check.due("line(0, 1, -1)", x.line(0, 1, -1), BAD);
        Check.due("line(0, 1, MIN)", x.line(0, 1, MIN), BAD);
        Check.due("line(0, 1, MAX)", x.line(0, 1, MAX), NONE);
        Check.due("line(9, 1, 9)", x.line(9, 1, 9), BAD);
    }

    private static void put() {
        Check.part("promise 10");
        CoreTests x = Check.laid(SMALL, 4);
        for (int c : new int[] {-1, 4, MIN, MAX}) Check.due("put(" + c + ", 1, 0)", x.put(c, 1, 0), BAD);
        for (int w : new int[] {-1, 0, 4, MIN, MAX}) Check.due("put(0, " + w + ", 0)", x.put(0, w, 0), BAD);
        for (int t : new int[] {-1, 100000, MIN, MAX}) Check.due("put(0, 1, " + t + ")", x.put(0, 1, t), BAD);
        Check.dueWhy(x);
        Check.due("put(0, 1, 5)", x.put(0, 1, 5), 8);
        Check.due("put(2, 2, 2)", x.put(2, 2, 2), 9);
        Check.due("put(2, 2, 2) again", x.put(2, 2, 2), NO);
        Check.dueWhy(x);
        Check.due("put(0, 9, 2)", x.put(0, 9, 2), BAD);
        Check.due("put(1, 1, 99999)", x.put(1, 1, 99999), 100004);
        Check.due("runs(99999, 2)", x.runs(99999, 2), 2);
        Check.dueCounts(x, 4, 3, 3, 10, 3, 100004, 0, 3);
        Check.due("put(3, 3, 9)", x.put(3, 3, 9), 100004);
        Check.due("count(4)", x.count(4), 4);
    }

    private static void dueRefused(CoreTests x, int c, int w, int t, int reason, int told) {
        int done = x.count(7);
        int length = x.count(5);
        Check.due("put(" + c + ", " + w + ", " + t + ")", x.put(c, w, t), NO);
        Check.dueWhy(x, 10 + c, reason, told);
        Check.due("count(7)", x.count(7), done);
        Check.due("count(5)", x.count(5), length);
        Check.due("core(" + c + ", 4)", x.core(c, 4), NONE);
    }

    private static void putRefused() {
        CoreTests x = Check.laid(SMALL, 4);
        dueRefused(x, 3, 1, 0, 1, 0);
        x.put(0, 1, 5);
        dueRefused(x, 3, 1, 7, 1, 0);
        dueRefused(x, 3, 1, 8, 1, 2);
        dueRefused(x, 1, 1, 0, 1, 0);
        x.put(2, 1, 1);
        dueRefused(x, 3, 3, 7, 1, 0);
        Check.due("put(3, 3, 8)", x.put(3, 3, 8), 11);
        x.take(0);
        // It would be done at 9, where 3 begins at 8; 2 has taken a line from 1 to 7.
        dueRefused(x, 0, 3, 6, 2, 3);
        dueRefused(x, 0, 3, 5, 3, 5);
        dueRefused(x, 0, 3, 0, 3, 1);
        Check.due("put(0, 2, 5)", x.put(0, 2, 5), 11);
        // Together 4 and 7 and 4 are more than 10; the lines are looked at first.
        dueRefused(x, 1, 1, 8, 3, 8);
        x.take(3);
        x.put(3, 1, 8);
        dueRefused(x, 1, 1, 8, 4, 8);
        dueRefused(x, 1, 3, 8, 3, 8);
        Check.due("put(1, 1, 11)", x.put(1, 1, 11), 16);
        CoreTests y = Check.laid("w2;m9;c0,1,4,2;c0,1,6,1;c0,2,9,1;c0,1,10,1;b0,1;b0,2;", 4);
        // 5, 3, 5 and 3 cycles.
        y.put(0, 1, 0);
        y.put(1, 1, 10);
        dueRefused(y, 2, 1, 6, 4, 10);
        dueRefused(y, 2, 2, 6, 3, 10);
        dueRefused(y, 3, 1, 50, 4, 50);
        Check.due("put(2, 2, 5)", y.put(2, 2, 5), 13);
        y.take(0);
        dueRefused(y, 0, 1, 6, 2, 1);
        dueRefused(y, 0, 1, 1, 2, 2);
        Check.due("put(0, 2, 0)", y.put(0, 2, 0), 13);
    }

    private static void take() {
        Check.part("promise 11");
        CoreTests x = Check.laid(SMALL, 4);
        for (int c : new int[] {-1, 4, MIN, MAX}) Check.due("take(" + c + ")", x.take(c), BAD);
        Check.due("take(0)", x.take(0), NO);
        x.put(0, 1, 0);
        x.put(1, 1, 10);
        Check.due("take(0)", x.take(0), 15);
        Check.due("take(0) again", x.take(0), NO);
        Check.due("core(1, 5), which stays", x.core(1, 5), 10);
        Check.due("take(1)", x.take(1), 0);
        Check.dueCounts(x, 4, 3, 3, 10, 0, 0, 0, 4);
        Check.dueWhy(x);
    }

    private static void fill() {
        Check.part("promise 12");
        CoreTests x = Check.laid(SMALL, 4);
        Check.due("fill()", x.fill(), 11);
        int[] froms = {0, 3, 0, 8};
        for (int c = 0; c < 4; c++) {
            Check.due("core(" + c + ", 4)", x.core(c, 4), 1);
            Check.due("core(" + c + ", 5)", x.core(c, 5), froms[c]);
        }
        Check.due("count(7)", x.count(7), 1);
        Check.due("fill() with all put", x.fill(), 11);
        Check.due("count(7)", x.count(7), 2);
        Check.due("undo()", x.undo(), 1);
        Check.due("count(4)", x.count(4), 4);
        Check.due("undo()", x.undo(), 0);
        Check.due("count(4)", x.count(4), 0);
        // 1 has a line till 34: 0 is done at 13 on the other, or at 41 on both behind it.
        CoreTests y = Check.laid("w2;c0,1,1,33;c0,4,1,33;c0,4,1,3;", 3);
        y.put(1, 1, 0);
        Check.due("fill()", y.fill(), 34);
        Check.due("core(0, 4)", y.core(0, 4), 1);
        Check.due("core(0, 5)", y.core(0, 5), 0);
        Check.due("core(2, 4)", y.core(2, 4), 1);
        Check.due("core(2, 5)", y.core(2, 5), 13);
        // 13 cycles from 0 on, or 7 from 6 on: done at once, so at the lesser width.
        CoreTests v = Check.laid("w2;c0,1,1,1;c0,1,1,33;", 2);
        v.put(0, 1, 3);
        Check.due("fill()", v.fill(), 13);
        Check.due("core(1, 4)", v.core(1, 4), 1);
        Check.due("core(1, 5)", v.core(1, 5), 0);
        CoreTests z = Check.laid("w4;c0,1,1,2222;c0,1,1,44;", 2);
        Check.due("fill()", z.fill(), 14);
        Check.due("core(0, 4)", z.core(0, 4), 4);
        Check.due("core(1, 4)", z.core(1, 4), 2);
        Check.due("core(1, 5)", z.core(1, 5), 5);
    }

    private static void fillStuck() {
        CoreTests y = Check.laid("w2;m9;c0,1,4,2;c0,1,6,1;c0,1,4,1;c0,1,10,1;b0,1;", 4);
        Check.due("fill()", y.fill(), NO);
        Check.dueWhy(y, 23, 13, 4, 8);
        Check.dueCounts(y, 4, 1, 2, 9, 0, 0, 0, 0);
        y.put(2, 1, 7);
        Check.due("fill()", y.fill(), NO);
        Check.dueWhy(y, 22, 13, 4, 13);
        Check.dueCounts(y, 4, 1, 2, 9, 1, 10, 0, 1);
        y.put(0, 1, 0);
        y.put(1, 1, 10);
        Check.due("fill()", y.fill(), NO);
        Check.dueWhy(y, 20, 13, 4, 13);
        CoreTests z = Check.laid("w1;c0,1,4,2;c0,1,6,1;c0,1,4,1;b0,1;b0,2;", 3);
        // 0 needs 5 cycles ahead of 4, where 2 begins; 1 at 20 is no hindrance, but lower.
        z.put(0, 1, 0);
        z.put(2, 1, 5);
        z.put(1, 1, 20);
        z.take(0);
        z.rename(0, 1);
        Check.due("fill()", z.fill(), NO);
        Check.dueWhy(z, 20, 10, 2, 1);
        z.take(1);
        Check.due("fill()", z.fill(), NO);
        Check.dueWhy(z, 20, 10, 2, 2);
        Check.due("count(4)", z.count(4), 1);
        z.rename(0, 0);
        Check.due("fill()", z.fill(), 11);
        Check.dueWhy(z, 20, 10, 2, 2);
    }

    private static void rename() {
        Check.part("promise 13");
        CoreTests x = Check.laid("c0,4,1,9;c3,4,1,9;", 2);
        for (int c : new int[] {-1, 2, MIN, MAX}) Check.due("rename(" + c + ", 1)", x.rename(c, 1), BAD);
        for (int k : new int[] {-1, 4, MIN, MAX}) Check.due("rename(0, " + k + ")", x.rename(0, k), BAD);
        Check.due("rename(0, 0)", x.rename(0, 0), NO);
        int[] takes = {49, 85, 60, 43};
        int was = 0;
        for (int k : new int[] {1, 2, 3, 0}) {
            Check.due("rename(0, " + k + ")", x.rename(0, k), was);
            Check.due("core(0, 0)", x.core(0, 0), k);
            Check.due("wrap(0, 1, 2)", x.wrap(0, 1, 2), takes[k]);
            was = k;
        }
        Check.due("count(7)", x.count(7), 4);
        x.put(0, 1, 0);
        Check.due("rename of one that is put", x.rename(0, 1), NO);
        Check.due("rename of one that is put", x.rename(0, 4), BAD);
        Check.due("rename(1, 0)", x.rename(1, 0), 3);
        Check.due("count(7)", x.count(7), 6);
        x.take(0);
        Check.due("rename(0, 2)", x.rename(0, 2), 0);
    }

    private static void undo() {
        Check.part("promise 14");
        CoreTests x = Check.laid(SMALL, 4);
        Check.due("undo()", x.undo(), NO);
        x.put(0, 2, 4);
        x.take(0);
        x.rename(0, 1);
        x.fill();
        Check.due("count(7)", x.count(7), 4);
        Check.due("undo() of fill", x.undo(), 3);
        Check.due("count(4)", x.count(4), 0);
        Check.due("core(0, 0)", x.core(0, 0), 1);
        Check.due("undo() of rename", x.undo(), 2);
        Check.due("core(0, 0)", x.core(0, 0), 0);
        Check.due("undo() of take", x.undo(), 1);
        Check.due("core(0, 4)", x.core(0, 4), 2);
        Check.due("core(0, 5)", x.core(0, 5), 4);
        Check.due("count(5)", x.count(5), 7);
        x.rename(1, 2);
        Check.due("undo() of rename", x.undo(), 1);
        Check.due("undo() of put", x.undo(), 0);
        Check.due("count(4)", x.count(4), 0);
        Check.due("undo()", x.undo(), NO);
        // Of ten only the last 8: the first two stay.
        for (int i = 1; i <= 10; i++) {
            x.rename(0, i % 4);
            Check.due("count(7)", x.count(7), Math.min(i, 8));
        }
        for (int left = 7; left >= 0; left--) {
            Check.due("undo()", x.undo(), left);
            Check.due("core(0, 0)", x.core(0, 0), (left + 2) % 4);
        }
        Check.due("undo()", x.undo(), NO);
        Check.due("core(0, 0)", x.core(0, 0), 2);
        // What is not done cannot be undone, and what is no act is none.
        x.put(3, 1, 0);
        x.take(0);
        x.rename(0, 2);
        x.keep();
        x.seen(0, 1, 5);
        x.soonest(0, 1);
        x.best(-1);
        x.fault();
        Check.due("count(7)", x.count(7), 0);
        x.put(2, 1, 0);
        Check.due("undo()", x.undo(), 0);
        Check.dueWhy(x, 13, 1, 0);
        Check.due("count(6)", x.count(6), 1);
        Check.due("count(8)", x.count(8), 1);
    }

    private static void why() {
        Check.part("promise 15");
        CoreTests x = Check.laid(SMALL, 4);
        Check.dueWhy(x);
        Check.due("why(-2)", x.why(-2), BAD);
        Check.due("why(MIN)", x.why(MIN), BAD);
        Check.due("why(MAX)", x.why(MAX), NONE);
        x.put(3, 1, 0);
        Check.dueWhy(x, 13, 1, 0);
        x.put(0, 1, 0);
        x.put(0, 1, 0);
        x.put(9, 1, 0);
        x.take(3);
        Check.dueWhy(x, 13, 1, 0);
        x.put(3, 1, 3);
        Check.dueWhy(x, 13, 1, 2);
        Check.due("why(MAX)", x.why(MAX), NONE);
        Check.due("why(-2)", x.why(-2), BAD);
        x.keep();
        x.put(1, 1, 2);
        x.back();
        Check.dueWhy(x, 11, 1, 0);
        CoreTests y = Check.laid("m5;c0,1,1,1;c0,1,6,1;", 2);
        y.fill();
        Check.dueWhy(y, 21, 11, 4, 3);
        y.put(1, 4, 7);
        Check.dueWhy(y, 11, 4, 7);
        y.fill();
        y.put(0, 1, 0);
        y.undo();
        Check.dueWhy(y, 21, 11, 4, 3);
    }

    private static void soonest() {
        Check.part("promise 16");
        CoreTests x = Check.laid(SMALL, 4);
        Check.due("soonest(0, 3)", x.soonest(0, 3), 0);
        Check.due("soonest(1, 1) behind one not put", x.soonest(1, 1), NONE);
        x.put(0, 2, 6);
        Check.due("soonest(0, 1) of one that is put", x.soonest(0, 1), NONE);
        Check.due("soonest(1, 1)", x.soonest(1, 1), 9);
        Check.due("soonest(2, 1)", x.soonest(2, 1), 0);
        // 7 cycles of two lines do not end ahead of 6.
        Check.due("soonest(2, 2)", x.soonest(2, 2), 9);
        x.put(2, 1, 3);
        // 0 draws 4 from 6 to 8, 2 draws 4 from 3 to 9: 3 must wait for both, 1 for one.
        Check.due("soonest(3, 1)", x.soonest(3, 1), 10);
        Check.due("soonest(1, 2)", x.soonest(1, 2), 9);
        Check.due("soonest(1, 3)", x.soonest(1, 3), 10);
        x.put(3, 1, 10);
        Check.due("soonest(1, 2)", x.soonest(1, 2), 13);
        x.take(0);
        Check.due("soonest(0, 3)", x.soonest(0, 3), 0);
        Check.due("soonest(0, 2)", x.soonest(0, 2), 0);
        x.take(2);
        x.put(0, 1, 2);
        Check.due("soonest(2, 1)", x.soonest(2, 1), 0);
        Check.due("soonest(2, 3)", x.soonest(2, 3), NONE);
        CoreTests y = Check.laid("m9;c0,1,10,1;c0,1,9,1;", 2);
        Check.due("soonest(0, 1) that draws too much", y.soonest(0, 1), NONE);
        y.put(1, 1, 99999);
        Check.due("soonest(1, 1)", y.soonest(1, 1), NONE);
        CoreTests z = Check.laid("w1;c0,1,9,1;c0,1,9,1;b0,1;", 2);
        z.put(0, 1, 99999);
        Check.due("soonest(1, 1)", z.soonest(1, 1), 100002);
        Check.due("fill()", z.fill(), 100005);
        for (int c : new int[] {-1, 2, MIN, MAX}) Check.due("soonest(" + c + ", 1)", z.soonest(c, 1), BAD);
        for (int w : new int[] {-1, 0, 2, MIN, MAX}) Check.due("soonest(0, " + w + ")", z.soonest(0, w), BAD);
        Check.dueWhy(z);
    }

    private static void dueRuns(CoreTests x, int t, int lines, int drawn, int bits) {
        Check.due("runs(" + t + ", 0)", x.runs(t, 0), lines);
        Check.due("runs(" + t + ", 1)", x.runs(t, 1), drawn);
        Check.due("runs(" + t + ", 2)", x.runs(t, 2), bits);
    }

    private static void runs() {
        Check.part("promise 17");
        CoreTests x = Check.laid(SMALL, 4);
        dueRuns(x, 0, 0, 0, 0);
        x.put(0, 2, 1);
        x.put(2, 1, 3);
        x.put(3, 3, 10);
        dueRuns(x, 0, 0, 0, 0);
        dueRuns(x, 1, 2, 4, 1);
        dueRuns(x, 3, 3, 8, 5);
        dueRuns(x, 4, 1, 4, 4);
        dueRuns(x, 9, 1, 4, 4);
        dueRuns(x, 10, 3, 7, 8);
        dueRuns(x, 12, 3, 7, 8);
        dueRuns(x, 13, 0, 0, 0);
        dueRuns(x, 99999, 0, 0, 0);
        x.take(3);
        x.put(3, 1, 99999);
        dueRuns(x, 99999, 1, 7, 8);
        for (int t : new int[] {-1, 100000, MIN, MAX}) Check.due("runs(" + t + ", 0)", x.runs(t, 0), BAD);
        for (int what : new int[] {-1, 3, MIN, MAX}) Check.due("runs(0, " + what + ")", x.runs(0, what), BAD);
    }

    private static void dueBounds(CoreTests x, int area, int path, int drawn) {
        Check.due("bound(0)", x.bound(0), area);
        Check.due("bound(1)", x.bound(1), path);
        Check.due("bound(2)", x.bound(2), drawn);
        Check.due("bound(3)", x.bound(3), Math.max(area, Math.max(path, drawn)));
        for (int what : new int[] {-1, 4, MIN, MAX}) Check.due("bound(" + what + ")", x.bound(what), BAD);
    }

    private static void bound() {
        Check.part("promise 18");
        CoreTests x = Check.laid(SMALL, 4);
        // 3 + 5 + 7 + 3 by 3; 2 and 3; 12 + 20 + 28 + 21 by 10.
        dueBounds(x, 6, 10, 9);
        x.put(2, 2, 50);
        dueBounds(x, 6, 10, 9);
        x.rename(1, 1);
        // 1 takes 7 now: 20 by 3, and 89 by 10.
        dueBounds(x, 7, 10, 9);
        // Two chains of 3: 13 at 1 and 2 times 7 at 2; of 2 and 2: 9 and 2 times 5. In a row.
        CoreTests y = Check.laid("w2;m1;c0,1,2,33;c0,1,3,22;c0,1,1,9;b0,1;b1,2;", 3);
        dueBounds(y, (13 + 9 + 19 + 1) / 2, 7 + 5 + 19, 14 + 15 + 19);
        // WARM, and no less at a greater width: AREA is by the least.
        CoreTests z = Check.laid("w3;m7;c2,1,1,99;c0,1,1,1;c0,1,1,1;b0,2;b0,2;", 3);
        dueBounds(z, 22, 63, 10);
        // 1 is ahead of 2 and 0 of 3: the path is no sum over all.
        CoreTests v = Check.laid("w8;m40;c0,1,1,1;c0,1,1,5;c0,1,1,1;c0,1,1,2;b1,2;b0,3;", 4);
        dueBounds(v, 3, 14, 1);
        CoreTests one = Check.laid("w8;m40;c0,1,30,1;", 1);
        dueBounds(one, 1, 3, 3);
    }

    private static void dueBest(CoreTests x, int length, int... order) {
        Check.due("best(-1)", x.best(-1), length);
        for (int k = 0; k < order.length; k++) Check.due("best(" + k + ")", x.best(k), order[k]);
        for (int k : new int[] {-2, order.length, order.length + 1, MIN, MAX}) Check.due("best(" + k + ")", x.best(k), BAD);
    }

    private static void best() {
        Check.part("promise 19");
        // 5, 5 and 8 cycles on two lines: 8 beside 5 and 5, not behind one of them.
        CoreTests x = Check.laid("w2;c0,2,1,1;c0,1,1,2;c0,2,1,2;", 3);
        Check.due("fill()", x.fill(), 13);
        x.undo();
        dueBest(x, 10, 0, 2, 1);
        CoreTests y = Check.laid("w2;m9;c0,1,5,1;c0,1,5,1;c0,1,4,3;", 3);
        // 3 and 3 cannot run together, 7 with both of them.
        dueBest(y, 7, 0, 1, 2);
        // All alike: the first order; rules bind.
        CoreTests z = Check.laid("w1;c0,1,1,1;c0,1,1,1;c0,1,1,1;b1,2;", 3);
        dueBest(z, 9, 0, 1, 2);
        CoreTests v = Check.laid("m9;c0,1,10,1;c0,1,1,1;b0,1;", 2);
        Check.due("best(-1)", v.best(-1), NONE);
        Check.due("best(0)", v.best(0), NONE);
        Check.due("best(1)", v.best(1), NONE);
        Check.due("best(2)", v.best(2), BAD);
        Check.due("best(-2)", v.best(-2), BAD);
        CoreTests all = Check.laid("m9;c0,1,9,1;c0,1,9,1;", 2);
        dueBest(all, 6, 0, 1);
        Check.due("costs(0)", v.costs(0), NONE);
        bestOfOtherKinds();
    }

    private static void bestOfOtherKinds() {
        CoreTests x = Check.laid("w2;c0,1,1,3;c0,1,1,4;c0,1,1,7;", 3);
        // 7, 9 and 15 cycles: what is put does not count, of which kind they are does.
        dueBest(x, 16, 0, 2, 1);
        x.put(2, 2, 300);
        dueBest(x, 16, 0, 2, 1);
        x.take(2);
        x.rename(0, 2);
        dueBest(x, 60, 0, 1, 2);
        x.undo();
        dueBest(x, 16, 0, 2, 1);
    }

    private static void costs() {
        Check.part("promise 20");
        CoreTests x = Check.laid("w2;m9;c0,2,5,4;c0,1,5,8;c0,3,4,2;b0,1;", 3);
        Check.due("costs(0)", x.costs(0), 100000);
        // 3 and 5 one behind the other or together.
        CoreTests y = Check.laid("w2;c0,1,1,1;c0,1,1,2;b0,1;b0,1;", 2);
        Check.due("costs(0) of a rule told twice", y.costs(0), 100000);
        Check.due("costs(1) of a rule told twice", y.costs(1), 100000);
        CoreTests z = Check.laid("w3;c0,1,1,1;c0,1,1,2;c0,1,1,3;b0,1;b1,2;", 3);
        // 3 + 5 + 7 in a row; without one of them 3 and 12, or 8 and 7.
        Check.due("costs(0)", z.costs(0), 100000 + 15 - 12);
        Check.due("costs(1)", z.costs(1), 100000 + 15 - 8);
        Check.due("best(-1)", z.best(-1), 15);
        z.fill();
        Check.due("costs(1)", z.costs(1), 100000 + 15 - 8);
        z.take(2);
        z.rename(2, 2);
        Check.due("costs(1)", z.costs(1), 100000 + 68 - 60);
        for (int b : new int[] {-1, 2, 8, MIN, MAX}) Check.due("costs(" + b + ")", z.costs(b), BAD);
        // Six of 3 cycles on 8 lines; 4 stands behind 0 to 3, and 5 behind 4 by one rule only.
        CoreTests six = Check.laid("w8;c0,1,1,1;c0,1,1,1;c0,1,1,1;c0,1,1,1;c0,1,1,1;c0,1,1,1;"
            + "b0,4;b1,4;b2,4;b3,4;b0,4;b0,5;b1,5;b4,5;", 6);
        for (int b = 0; b < 7; b++) Check.due("costs(" + b + ") of 8", six.costs(b), 100000);
        Check.due("costs(7) of 8", six.costs(7), 100003);
        Check.due("costs(8) of 8", six.costs(8), BAD);
        CoreTests none = Check.laid("c0,1,1,1;", 1);
        Check.due("costs(0) without rules", none.costs(0), BAD);
    }

    private static void seen() {
        Check.part("promise 21");
        CoreTests x = Check.laid("w2;c0,1,1,1;c0,1,1,2;", 2);
        for (int c : new int[] {-1, 2, MIN, MAX}) Check.due("seen(" + c + ", 1, 1)", x.seen(c, 1, 1), BAD);
        for (int w : new int[] {-1, 0, 3, MIN, MAX}) Check.due("seen(0, " + w + ", 1)", x.seen(0, w, 1), BAD);
        for (int t : new int[] {-1, 0, 10000, MIN, MAX}) Check.due("seen(0, 1, " + t + ")", x.seen(0, 1, t), BAD);
        Check.due("count(6)", x.count(6), 0);
        Check.due("seen(0, 1, 1)", x.seen(0, 1, 1), 1);
        Check.due("seen(0, 1, 1)", x.seen(0, 1, 1), 2);
        for (int i = 3; i <= 6; i++) Check.due("seen(1, 2, 9999)", x.seen(1, 2, 9999), i);
        Check.due("seen, a seventh", x.seen(1, 2, 9999), FULL);
        Check.due("seen, a seventh", x.seen(1, 2, 10000), BAD);
        Check.due("count(6)", x.count(6), 6);
        Check.part("promise 22");
        Check.due("forget()", x.forget(), 6);
        Check.due("count(6)", x.count(6), 0);
        Check.due("forget()", x.forget(), 0);
        Check.due("kinds(0)", x.kinds(0), 15);
        Check.due("seen(0, 1, 3)", x.seen(0, 1, 3), 1);
        Check.due("forget()", x.forget(), 1);
    }

    private static void kinds() {
        Check.part("promise 23");
        // At 1: PLAIN 49, SLOW 85, WARM 60, QUICK 43.
        CoreTests x = Check.laid("w2;c0,4,1,9;c1,6,1,95;c0,1,1,1;", 3);
        int[] takes = {49, 85, 60, 43};
        for (int k = 0; k < 4; k++) {
            x.seen(0, 1, takes[k]);
            Check.due("kinds(0)", x.kinds(0), 1 << k);
            Check.due("kinds(1)", x.kinds(1), 15);
            x.forget();
        }
        x.seen(0, 1, 50);
        Check.due("kinds(0) of what none takes", x.kinds(0), 0);
        x.forget();
        // 1 at 2: 6 * 10 + 9 as PLAIN and as WARM.
        x.seen(1, 2, 69);
        Check.due("kinds(1)", x.kinds(1), 5);
        x.rename(1, 3);
        Check.due("kinds(1), whatever it is", x.kinds(1), 5);
        x.seen(1, 1, 104);
        Check.due("kinds(1)", x.kinds(1), 5);
        x.seen(1, 2, 123);
        Check.due("kinds(1) of what goes against it", x.kinds(1), 0);
        x.seen(2, 1, 60);
        x.keep();
        x.undo();
        x.back();
        Check.due("kinds(2)", x.kinds(2), 4);
        // 3 as PLAIN, 4 as SLOW, 2 as QUICK.
        x.forget();
        x.seen(2, 2, 2);
        Check.due("kinds(2)", x.kinds(2), 8);
        for (int c : new int[] {-1, 3, MIN, MAX}) Check.due("kinds(" + c + ")", x.kinds(c), BAD);
    }

    private static void keepAndBack() {
        Check.part("promise 24");
        CoreTests x = Check.laid(SMALL, 4);
        Check.due("back()", x.back(), NO);
        x.put(0, 2, 7);
        x.rename(1, 1);
        Check.due("keep()", x.keep(), 1);
        x.take(0);
        x.rename(1, 2);
        x.rename(2, 3);
        Check.due("keep()", x.keep(), 2);
        Check.due("keep(), a third", x.keep(), FULL);
        x.fill();
        Check.dueCounts(x, 4, 3, 3, 10, 4, 66, 0, 6, 2, 0);
        Check.part("promise 25");
        x.put(0, 1, 1);
        x.write('x');
        x.seen(1, 1, 7);
        x.undo();
        x.put(3, 1, 0);
        Check.dueWhy(x, 13, 1, 0);
        Check.due("back()", x.back(), 1);
        Check.dueCounts(x, 4, 3, 3, 10, 0, 0, 1, 0, 1, 1);
        Check.due("undo()", x.undo(), NO);
        Check.dueWhy(x, 13, 1, 0);
        Check.due("core(1, 0)", x.core(1, 0), 2);
        Check.due("core(2, 0)", x.core(2, 0), 3);
        x.put(2, 3, 40);
        Check.due("keep()", x.keep(), 2);
        Check.due("back()", x.back(), 1);
        Check.due("core(2, 5)", x.core(2, 5), 40);
        Check.due("count(7)", x.count(7), 0);
        Check.due("back()", x.back(), 0);
        Check.due("core(0, 4)", x.core(0, 4), 2);
        Check.due("core(0, 5)", x.core(0, 5), 7);
        Check.due("core(1, 0)", x.core(1, 0), 1);
        Check.due("core(2, 0)", x.core(2, 0), 0);
        Check.due("core(2, 4)", x.core(2, 4), NONE);
        Check.due("count(5)", x.count(5), 10);
        Check.due("back()", x.back(), NO);
        Check.due("keep()", x.keep(), 1);
    }

    private static void count() {
        Check.part("promise 26");
        CoreTests x = Check.laid("w7;m33;c0,1,4,1;c0,1,4,2;c0,1,4,3;b0,1;b0,2;", 3);
        Check.dueCounts(x, 3, 2, 7, 33, 0, 0, 0, 0, 0, 0);
        x.put(0, 1, 4);
        x.put(1, 1, 9);
        x.seen(0, 1, 1);
        x.seen(0, 1, 1);
        x.seen(0, 1, 1);
        x.keep();
        x.write('a');
        x.write('b');
        x.write('c');
        x.write('d');
        x.take(1);
        Check.dueCounts(x, 3, 2, 7, 33, 1, 7, 3, 3, 1, 4);
        x.undo();
        Check.dueCounts(x, 3, 2, 7, 33, 2, 14, 3, 2, 1, 4);
        for (int what : new int[] {-1, 10, MIN, MAX}) Check.due("count(" + what + ")", x.count(what), BAD);
    }
}
