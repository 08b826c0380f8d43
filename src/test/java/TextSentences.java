/**
 * The sentences of the document about THE TEXT, FAULT and LAID that name a boundary, each with
 * a test of its own: what stands behind Check.part is the sentence.
 */
public final class TextSentences {
    private static final int BAD = CoreTests.BAD, NO = CoreTests.NO, FULL = CoreTests.FULL, NONE = CoreTests.NONE;
    private static final int MIN = Asked.MIN, MAX = Asked.MAX;
    private static final String SIX = "c0,1,1,1;".repeat(6);

    public static void main(String[] args) {
        newObject();
        lastCall();
        letters();
        lettersAtMost();
        behindTheText();
        wipe();
        itemsAreWhole();
        itemsAreWholeInAFullText();
        itemsAreParted();
        letterOfAnItem();
        figuresOfNumbers();
        rowsOfFigures();
        lines();
        linesWithout();
        linesOnceAndAhead();
        power();
        powerWithout();
        powerOfSeveral();
        coresOfText();
        coresAtMost();
        coresInOrder();
        rules();
        rulesAtMost();
        rulesInOrder();
        firstFault();
        noFault();
        layOfACoreAtLeast();
        layWithFault();
        layStartsAnew();
        layKeepsTheText();
        Check.end();
    }

    private static void dueFault(int place, String... texts) {
        for (String text : texts) {
            Asked x = new Asked().written(text);
            Check.due("fault() of " + text, x.answer("fault"), place);
            int cores = text.split("c", -1).length - 1;
            Check.due("lay() of " + text, x.answer("lay"), place == NONE && cores > 0 ? cores : NO);
        }
    }

    private static void newObject() {
        Check.part("at first w4;m20;c0,5,6,9433;c1,4,9,72;c2,9,4,5551;c3,8,11,8643;c0,12,5,31;b0,3;b1,4;: no CORE is PUT");
        Asked told = Asked.on("w4;m20;c0,5,6,9433;c1,4,9,72;c2,9,4,5551;c3,8,11,8643;c0,12,5,31;b0,3;b1,4;");
        Asked first = new Asked();
        first.looksLike(told).is(0, "count", 9).is(0, "count", 4).is(2, "count", 1).is(0, "wipe").is(NO, "lay");
        first.refused(3, 1, 999, 1, 0).refused(4, 1, 999, 1, 1).is(119, "put", 0, 1, 0);
    }

    private static void lastCall() {
        Check.part("An object is used for at most 512 calls");
        Asked x = new Asked();
        for (int i = 1; i <= 200; i++) x.is(i, "write", 'm');
        for (int i = 201; i <= 508; i++) x.is(FULL, "write", 'm');
        x.is(119, "put", 0, 1, 0).is(0, "undo").is(200, "fill").is(200, "wipe");
    }

    private static void letters() {
        Check.part("A letter (32 to 126, as in ASCII)");
        Asked x = new Asked().bad("write", 0, new int[] {65}, 31, 127, 128, 255, 10, 0, -1, -32, 256 + 65, 65536 + 65, MIN, MAX);
        x.is(0, "count", 9);
        for (int letter = 32; letter <= 126; letter++) x.is(letter - 31, "write", letter);
        x.is(95, "count", 9).bad("write", 0, new int[] {65}, 31, 127, MIN, MAX).is(95, "count", 9);
    }

    private static void lettersAtMost() {
        Check.part("A TEXT is letters (200 at most)");
        String full = "c0,1,1,11;m1;m2;" + "m20;".repeat(46);
        Asked x = new Asked().written(full).is(200, "count", 9);
        x.is(FULL, "write", 'x').is(FULL, "write", 32).is(FULL, "write", 126).is(200, "count", 9);
        x.is(NONE, "fault").is(1, "lay").is(FULL, "write", ';').is(200, "wipe").is(1, "write", 'x');
        Check.part("BAD .. FULL. Of several the first in this order");
        new Asked().written(full).bad("write", 0, new int[] {65}, 31, 127, MIN, MAX).is(200, "count", 9);
        new Asked().written(full.substring(1)).is(199, "count", 9).is(200, "write", 'x').is(FULL, "write", 'x');
    }

    private static void behindTheText() {
        Check.part("A letter comes behind THE TEXT: how long it is");
        new Asked().is(1, "write", 'w').is(2, "write", '2').is(3, "write", ';').is(NONE, "fault").is(4, "write", 'w').is(3, "fault");
    }

    private static void wipe() {
        Check.part("THE TEXT is empty: how long it was");
        Asked x = new Asked().is(0, "wipe").is(0, "wipe").written("w9;").is(0, "fault").is(3, "wipe");
        x.is(0, "count", 9).is(NONE, "fault").is(NO, "lay").is(5, "count", 0).is(0, "wipe").written("c0,1,1,1;").is(1, "lay");
        x.is(3, "put", 0, 1, 0).is(9, "wipe").is(1, "count", 4).is(1, "count", 0).is(1, "count", 7);
        Check.part("THE TEXT is empty: nothing of what it was is left behind the new one");
        x.written("c0,1,1,1;w4;").is(9, "fault").is(12, "wipe").written("c0,1,1,1").is(0, "fault").is(9, "write", ';').is(NONE, "fault");
        x.is(9, "wipe").written("c0,1").is(0, "fault").is(NO, "lay").is(4, "wipe").written("w").is(0, "fault").is(2, "write", '8').is(0, "fault");
    }

    private static void itemsAreWhole() {
        Check.part("ITEMS one behind the other, each a letter, then what it tells, .. and a ; behind it");
        String[] items = {"w8;", "m40;", "c3,20,30,999999;", "c0,1,1,1;", "b0,1;", "m1;"};
        StringBuilder whole = new StringBuilder();
        for (String item : items) {
            int start = whole.length();
            for (int i = 1; i < item.length(); i++) dueFault(start, whole + item.substring(0, i));
            whole.append(item);
            dueFault(NONE, whole.toString());
            dueFault(whole.length(), whole + ";", whole + " ", whole + "1");
        }
    }

    private static void itemsAreWholeInAFullText() {
        Check.part("a ; behind it: where THE TEXT is full at 200 letters, and the last ITEM has none");
        for (String item : new String[] {"m40;", "c3,20,30,999999;", "b00,01;", "x"}) {
            for (int i = 1; i < item.length() || i == 1; i++) {
                StringBuilder text = new StringBuilder("c0,1,1,1;c0,1,1,1;");
                while ((200 - i - text.length()) % 4 != 0) text.append("m1;");
                while (text.length() < 200 - i) text.append("m20;");
                dueFault(200 - i, text + item.substring(0, i));
            }
        }
        Asked x = new Asked().written("m20;".repeat(49) + "m1;").is(NONE, "fault").is(200, "write", ';').is(199, "fault").is(FULL, "write", ';').is(NO, "lay");
        x.is(200, "wipe").written("w8;").is(NONE, "fault");
    }

    private static void itemsAreParted() {
        Check.part("what it tells, parted by ,");
        dueFault(0, "c0,1,1;", "c0,1;", "c0;", "c;", "c0,1,1,1,1;", "c,0,1,1,1;", "c0,1,1,;", "c0,,1,1;", "c0,1,,1;", "c,1,1,1;",
            "c0;1,1,1;", "c0,1;1,1;", "c0,1,1;1;", "c0 1,1,1;", "c0.1,1,1;", "c0,1,1,1,", "c0,1,1,1:", "w4,", "w,4;", "w4,4;", "m5,", "m5,5;");
        dueFault(54, SIX + "b0;", SIX + "b0,1,2;", SIX + "b,0,1;", SIX + "b0,;", SIX + "b,1;", SIX + "b0;1;", SIX + "b01;", SIX + "b0,1,");
        dueFault(0, "c0, 1,1,1;", " c0,1,1,1;", "c0,1,1,1 ;", "w 4;", "m+5;", "m-5;");
    }

    private static void letterOfAnItem() {
        Check.part("each a letter: wN, mM, cK,P,D,L, bA,B");
        for (int letter = 32; letter <= 126; letter++) {
            if (letter != 'w' && letter != 'm') dueFault(0, (char) letter + "4;");
            if (letter != 'b') dueFault(54, SIX + (char) letter + "0,1;");
            if (letter != 'c') dueFault(0, (char) letter + "0,1,1,1;");
        }
    }

    private static void figuresOfNumbers() {
        Check.part("numbers: one or two figures");
        dueFault(NONE, "w4;c0,1,1,1;", "w04;c0,1,1,1;", "m5;c0,1,1,1;", "m05;c0,1,1,1;", "c00,01,01,1;", "c03,09,09,1;", SIX + "b00,01;");
        dueFault(0, "w004;", "m005;", "m040;", "c000,1,1,1;", "c0,001,1,1;", "c0,1,001,1;", "w;", "m;");
        dueFault(54, SIX + "b000,1;", SIX + "b0,001;");
    }

    private static void rowsOfFigures() {
        Check.part("a row: one figure for each, one next to the other");
        new Asked().written("c0,1,1,12;").is(1, "lay").is(2, "core", 0, 3).is(1, "chain", 0, 0).is(2, "chain", 0, 1).is(NONE, "chain", 0, 2);
        dueFault(0, "c0,1,1,1,2;", "c0,1,1,1 2;", "c0,1,1,1-2;");
        dueFault(9, "c0,1,1,1;2;");
        Check.part("the lengths L (a row of 1 to 6 figures 1 to 9)");
        dueFault(NONE, "c0,1,1,1;", "c0,1,1,9;", "c0,1,1,123456;", "c0,1,1,999999;", "c0,1,1,111111;");
        dueFault(0, "c0,1,1,;", "c0,1,1,1234567;", "c0,1,1,0;", "c0,1,1,01;", "c0,1,1,10;", "c0,1,1,101;", "c0,1,1,123450;", "c0,1,1,00;",
            "c0,1,1,1a;", "c0,1,1,/;", "c0,1,1,:;");
    }

    private static void lines() {
        Check.part("wN there are N (1 to 8) LINES");
        for (int n = 0; n <= 99; n++) dueFault(n >= 1 && n <= 8 ? NONE : 0, "w" + n + ";");
        for (int n = 1; n <= 8; n++) {
            Asked x = Asked.on("w" + n + ";c0,1,1,1;").is(n, "count", 2).is(1, "wrap", 0, n, 0);
            x.is(BAD, "wrap", 0, n + 1, 0).is(BAD, "wrap", 0, 0, 0);
        }
    }

    private static void linesWithout() {
        Check.part("LINES (4 without)");
        Asked x = Asked.on("c0,1,1,1;").is(4, "count", 2).is(1, "wrap", 0, 4, 0).is(BAD, "wrap", 0, 5, 0);
        x.written("w8;c0,1,1,1;").is(1, "lay").is(8, "count", 2).is(12, "wipe").written("c0,1,1,1;").is(1, "lay").is(4, "count", 2);
    }

    private static void linesOnceAndAhead() {
        Check.part("LINES .. told at most once, ahead of all others");
        dueFault(3, "w4;w4;", "w1;w2;", "m5;w4;");
        dueFault(9, "c0,1,1,1;w4;", "c0,1,1,1;w4;m5;");
        dueFault(6, "w4;m5;w4;");
        dueFault(23, "c0,1,1,1;c0,1,1,1;b0,1;w4;");
    }

    private static void power() {
        Check.part("mM POWER is M (1 to 40)");
        for (int m = 0; m <= 99; m++) dueFault(m >= 1 && m <= 40 ? NONE : 0, "m" + m + ";");
        Asked.on("m1;c0,1,1,1;c0,1,1,1;").is(1, "count", 3).is(3, "put", 0, 1, 0).refused(1, 1, 2, 4, 2).is(6, "put", 1, 1, 3);
        Asked.on("m40;c0,1,30,1;c0,1,10,1;c0,1,1,1;").is(40, "count", 3).is(3, "put", 0, 1, 0).is(3, "put", 1, 1, 0).refused(2, 1, 0, 4, 0);
    }

    private static void powerWithout() {
        Check.part("POWER (20 without)");
        Asked x = Asked.on("c0,1,20,1;c0,1,21,1;").is(20, "count", 3).is(3, "put", 0, 1, 0).is(NONE, "soonest", 1, 1);
        x.written("m7;c0,1,1,1;").is(1, "lay").is(7, "count", 3).is(12, "wipe").written("c0,1,1,1;").is(1, "lay").is(20, "count", 3);
    }

    private static void powerOfSeveral() {
        Check.part("POWER .. of several the last one counts");
        Asked.on("m1;m40;m9;c0,1,9,1;").is(9, "count", 3);
        Asked.on("m40;c0,1,9,1;m5;c0,1,5,1;m6;").is(6, "count", 3).is(NONE, "soonest", 0, 1).is(0, "soonest", 1, 1);
        Asked.on("m5;c0,1,9,1;m9;m9;").is(9, "count", 3).is(0, "soonest", 0, 1);
        dueFault(4, "m40;m41;m5;");
    }

    private static void coresOfText() {
        Check.part("of KIND K (0 PLAIN, 1 SLOW, 2 WARM, 3 QUICK)");
        for (int k = 0; k <= 99; k++) dueFault(k <= 3 ? NONE : 0, "c" + k + ",1,1,1;");
        int[] takes = {3, 4, 60, 2};
        for (int k = 0; k <= 3; k++) Asked.on("c" + k + ",1,1,1;").is(k, "core", 0, 0).is(takes[k], "wrap", 0, 1, 2);
        Check.part("with P (1 to 20) PATTERNS");
        for (int p = 0; p <= 99; p++) dueFault(p >= 1 && p <= 20 ? NONE : 0, "c0," + p + ",1,1;");
        Asked.on("c0,20,1,1;c0,1,1,1;").is(20, "core", 0, 1).is(1, "core", 1, 1).is(41, "wrap", 0, 1, 2).is(3, "wrap", 1, 1, 2);
        Check.part("that DRAWS D (1 to 30)");
        for (int d = 0; d <= 99; d++) dueFault(d >= 1 && d <= 30 ? NONE : 0, "c0,1," + d + ",1;");
        Asked.on("m40;c0,1,30,1;c0,1,1,1;").is(30, "core", 0, 2).is(1, "core", 1, 2);
    }

    private static void coresAtMost() {
        Check.part("a CORE .. 6 at most");
        dueFault(NONE, SIX, SIX + "m5;", "w8;m40;" + "c3,20,30,999999;".repeat(6));
        dueFault(54, SIX + "c0,1,1,1;", SIX + "c0,1,1,1;b0,9;");
        Asked.on(SIX).is(6, "count", 0).is(0, "core", 5, 0).is(BAD, "core", 6, 0);
    }

    private static void coresInOrder() {
        Check.part("a CORE .. 0, 1, ..");
        Asked x = Asked.on("c0,11,1,1;c0,12,1,1;m9;c0,13,1,1;b0,1;c0,14,1,1;c0,15,1,1;c0,16,1,1;");
        for (int c = 0; c < 6; c++) x.is(11 + c, "core", c, 1);
    }

    private static void rules() {
        Check.part("bA,B CORE A is AHEAD of B (both told ahead, A lower)");
        for (int a = 0; a <= 7; a++) {
            for (int b = 0; b <= 7; b++) dueFault(a < b && b < 6 ? NONE : 54, SIX + "b" + a + "," + b + ";");
        }
        dueFault(0, "b0,1;", "b0,0;", "b0,1;" + SIX);
        dueFault(9, "c0,1,1,1;b0,1;c0,1,1,1;", "c0,1,1,1;b0,0;");
        dueFault(54, SIX + "b0,99;", SIX + "b99,0;", SIX + "b10,11;");
        Asked x = Asked.on("c0,1,1,1;c0,1,1,1;b0,1;c0,1,1,1;b1,2;").is(2, "count", 1);
        x.refused(1, 1, 9, 1, 0).refused(2, 1, 9, 1, 1).is(0, "soonest", 0, 1);
    }

    private static void rulesAtMost() {
        Check.part("bA,B .. 8 at most");
        String eight = "b0,1;b0,1;b0,2;b1,2;b0,5;b3,5;b4,5;b0,1;";
        dueFault(NONE, SIX + eight, SIX + eight + "m3;");
        dueFault(94, SIX + eight + "b0,1;", SIX + eight + "b4,5;m3;");
        Asked.on(SIX + eight).is(8, "count", 1);
        Asked.on(SIX).is(0, "count", 1);
    }

    private static void rulesInOrder() {
        Check.part("bA,B .. 0, 1, ..");
        // 3, 5 and 7 cycles beside one another, but 2 behind 0 and 1 behind 0.
        Asked x = Asked.on("c0,1,1,1;c0,1,1,2;c0,1,1,3;b0,2;b0,1;").is(10, "best", -1);
        x.is(100002, "costs", 0).is(100000, "costs", 1).is(BAD, "costs", 2);
        Asked.on("c0,1,1,1;c0,1,1,2;c0,1,1,3;b0,1;b0,2;").is(100000, "costs", 0).is(100002, "costs", 1);
    }

    private static void firstFault() {
        Check.part("FAULT: the place of the first letter of the first ITEM that is not so");
        dueFault(0, "x", "w9;w9;", "c0,1,1,0;w4;", "c9,1,1,1;b5,5;");
        dueFault(3, "w4;m41;w4;", "m5;c0,1,1,x;;", "m5;c0,1,1,1");
        dueFault(12, "m5;c0,1,1,1;c0,1,1,12345678;b0,1;");
        dueFault(9, "w4;m5;m6;m7,;", "w4;m5;m6;m7", "w4;m5;m6;;m41;");
    }

    private static void noFault() {
        Check.part("fault: NONE");
        dueFault(NONE, "", "w1;", "m1;", "w1;m1;", SIX);
        new Asked().is(NONE, "fault").written("z").is(0, "fault").is(1, "wipe").is(NONE, "fault");
    }

    private static void layOfACoreAtLeast() {
        Check.part("LAID is a TEXT without FAULT, of a CORE at least (NO else)");
        for (String text : new String[] {"", "w2;", "m2;", "w2;m2;m3;"}) {
            new Asked().written(text).is(NONE, "fault").is(NO, "lay").is(5, "count", 0).is(4, "count", 2).is(20, "count", 3);
        }
        Asked.on("c0,1,1,1;").is(1, "count", 0);
        Asked.on(SIX).is(6, "count", 0);
    }

    /** Something of everything: put, undone, kept, seen, and why. */
    private static Asked busy() {
        Asked x = Asked.on("w2;c0,1,4,1;c0,1,4,2;c0,1,4,3;b0,1;");
        x.is(0, "rename", 2, 1).is(3, "put", 0, 1, 0).is(1, "keep").is(1, "seen", 0, 1, 3);
        return x.refused(1, 1, 2, 1, 0);
    }

    private static void layWithFault() {
        Check.part("lay: NO; nothing changes then");
        for (String text : new String[] {"", "m7;", "w1;m1;c0,9,9,99;x", "c1,2,3,4;c0,1,1,1;b1,1;", "w8;c0,1,1,1;c0,1,1,1;c0,1,1,1;c0,1,1,1"}) {
            Asked x = busy().written(text).is(NO, "lay").is(text.length(), "wipe");
            x.looksLike(busy()).why(11, 1, 0).is(8, "put", 1, 1, 3).is(1, "chain", 0, 0);
        }
    }

    private static void layStartsAnew() {
        Check.part("lay: nothing PUT, SEEN, UNDONE, KEPT, no WHY");
        String text = "w2;c0,1,4,1;c0,1,4,2;c0,1,4,3;b0,1;";
        Asked x = busy().written(text).is(3, "lay").is(text.length(), "wipe");
        x.is(NO, "undo").is(NO, "back").why().is(15, "kinds", 0).is(0, "count", 4).is(0, "count", 6).is(0, "count", 7).is(0, "count", 8);
        x.is(0, "core", 2, 0).is(NONE, "core", 0, 4).is(NONE, "core", 0, 5).is(0, "runs", 0, 0).looksLike(Asked.on(text));
        Check.part("lay: a second chip beside which nothing is left of the first");
        Asked y = busy().written("c3,2,5,12;").is(1, "lay").is(10, "wipe").looksLike(Asked.on("c3,2,5,12;"));
        y.is(BAD, "core", 1, 0).is(BAD, "costs", 0).is(NONE, "chain", 0, 2);
        Check.part("lay: a second chip, of the same KINDS, has a BEST and COSTS of its own");
        Asked z = Asked.on("w1;c0,1,1,1;c0,1,1,2;b0,1;").is(8, "best", -1).is(100000, "costs", 0).written("w2;c0,1,1,3;c0,1,1,4;b0,1;").is(2, "lay");
        z.is(16, "best", -1).is(0, "best", 0).is(100007, "costs", 0);
    }

    private static void layKeepsTheText() {
        Check.part("lay: (THE TEXT stays)");
        Asked x = new Asked().written("c0,1,1,1;").is(1, "lay").is(9, "count", 9).is(1, "lay").written("c1,1,1,1;").is(2, "lay");
        x.is(18, "count", 9).is(19, "write", 'x').is(NO, "lay").is(18, "fault").is(19, "wipe").is(2, "count", 0);
    }
}
