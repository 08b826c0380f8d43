/**
 * The sentences of the document about FILLED, STUCK, UNDONE, WHY and KEPT that name a boundary,
 * each with a test of its own: what stands behind Check.part is the sentence.
 * A PLAIN core of 1 pattern and one chain of length l takes 2l+1 cycles at each width.
 */
public final class FillSentences {
    private static final int BAD = CoreTests.BAD, NO = CoreTests.NO, FULL = CoreTests.FULL, NONE = CoreTests.NONE;
    private static final int MIN = Asked.MIN, MAX = Asked.MAX;

    /** 5, 3 and 7 cycles on three lines. */
    private static final String FREE = "w3;m9;c0,1,3,2;c0,1,3,1;c0,1,3,3;";

    public static void main(String[] args) {
        fillTheLowest();
        fillFromSoonest();
        fillDoneFirst();
        fillTheLeastWidth();
        fillTheRest();
        fillAllBeingPut();
        stuckByPower();
        stuckByOneBehind();
        stuckAtTheLowest();
        stuckAheadOfLength();
        stuckChangesNothing();
        undoNothing();
        undoOfEach();
        undoTheLastEight();
        undoWhatWasDone();
        undoOnlyTheActs();
        whyNone();
        whyOfPut();
        whyOfFill();
        whyTheLatest();
        whyStays();
        whyBad();
        keepAtMost();
        backNone();
        backAsKeptLast();
        backUndoesNoMore();
        backButTheTextAndWhatIsSeen();
        Check.end();
    }

    private static void fillTheLowest() {
        Check.part("FILLED, of those that are not PUT and AHEAD of which none is that is not PUT, the lowest is PUT");
        Asked.on("w1;m9;c0,1,3,2;c0,1,3,1;c0,1,3,3;").is(15, "fill").lies(0, 1, 0).lies(1, 1, 5).lies(2, 1, 8);
        Asked.on("w1;m9;c0,1,3,2;c0,1,3,1;c0,1,3,3;b0,2;").is(15, "fill").lies(1, 1, 5).lies(2, 1, 8);
        Asked.on("w1;c0,1,3,2;").is(5, "fill").lies(0, 1, 0).is(1, "count", 4);
        Check.part("and so on, till all are PUT");
        Asked.on("w1;" + "c0,1,1,1;".repeat(6)).is(18, "fill").lies(5, 1, 15).is(6, "count", 4).is(1, "count", 7);
    }

    private static void fillFromSoonest() {
        Check.part("is PUT from its SOONEST on");
        Asked x = Asked.on(FREE).is(9, "put", 0, 3, 4).is(16, "fill").lies(1, 1, 0).lies(2, 1, 9);
        Asked.on(FREE + "b0,1;b0,2;").is(16, "put", 0, 1, 11).is(23, "fill").lies(1, 1, 16).lies(2, 1, 16);
        Check.part("is PUT from its SOONEST on, in a gap that is just long enough");
        x.is(1, "undo").is(14, "put", 1, 3, 11).is(21, "fill").lies(2, 1, 14);
        x.is(14, "take", 2).is(9, "take", 1).is(19, "put", 1, 3, 16).is(19, "fill").lies(2, 1, 9);
    }

    private static void fillDoneFirst() {
        Check.part("at the WIDTH at which it is done first so");
        // 13 cycles at 1, 7 at 2: 13 beside the other, or 7 behind it.
        String text = "w2;c0,1,1,33;c0,1,1,1;";
        Asked.on(text).is(5, "put", 1, 1, 2).is(12, "fill").lies(0, 2, 5);
        Asked.on(text).is(10, "fill").lies(0, 2, 0).lies(1, 1, 7);
        Asked.on(text).is(7, "put", 1, 1, 4).is(13, "fill").lies(0, 1, 0);
        Asked.on(text).is(10, "put", 1, 1, 7).is(10, "fill").lies(0, 2, 0);
    }

    private static void fillTheLeastWidth() {
        Check.part("at the WIDTH at which it is done first so, of several the least");
        // 13 from 0 on, or 7 from 6 on.
        Asked.on("w2;c0,1,1,33;c0,1,1,1;").is(6, "put", 1, 1, 3).is(13, "fill").lies(0, 1, 0);
        Asked.on("w8;c0,1,1,9;c2,1,1,999;c0,1,1,999;").is(60, "fill").lies(0, 1, 0).lies(1, 1, 0).lies(2, 3, 0);
        Asked.on("w8;c0,1,1,111111;").is(3, "fill").lies(0, 6, 0);
    }

    private static void fillTheRest() {
        Check.part("of those that are not PUT: those that are stay as they are");
        Asked x = Asked.on(FREE).is(58, "put", 1, 3, 55).is(58, "fill").lies(0, 1, 0).lies(1, 3, 55).lies(2, 1, 0).is(2, "count", 7);
        x.is(1, "undo").is(1, "count", 4).lies(1, 3, 55);
        // 0 was taken off from ahead of 1, and has just room enough again.
        Asked y = Asked.on(FREE + "b0,1;").is(5, "put", 0, 3, 0).is(8, "put", 1, 3, 5).is(8, "take", 0).is(15, "fill").lies(0, 1, 0).lies(2, 1, 8);
        y.is(3, "undo").is(1, "count", 4);
    }

    private static void fillAllBeingPut() {
        Check.part("fill: (All being PUT: nothing to do, but done.)");
        Asked x = Asked.on("c0,1,1,1;").is(13, "put", 0, 2, 10).is(13, "fill").lies(0, 2, 10).is(2, "count", 7).why();
        x.is(1, "undo").lies(0, 2, 10).is(0, "undo").lies(0, NONE, NONE);
        Check.part("fill: all being PUT, though a CORE was TAKEN OFF and PUT again");
        Asked.on(FREE).is(7, "fill").is(7, "fill").is(7, "take", 1).is(7, "put", 1, 1, 0).is(7, "fill").is(5, "count", 7);
    }

    private static void stuckByPower() {
        Check.part("is there none such, it is STUCK .. as if it was PUT at WIDTH 1 from LENGTH on: 4");
        Asked.on("m9;c0,1,10,1;").is(NO, "fill").why(20, 10, 4, 0);
        Asked.on("m9;c0,1,10,1;c0,1,1,1;").is(10, "put", 1, 1, 7).is(NO, "fill").why(20, 10, 4, 10).is(1, "count", 4);
        Asked.on("w1;m9;c0,1,9,1;c0,1,9,1;").is(6, "fill").why();
    }

    private static void stuckByOneBehind() {
        Check.part("is there none such, it is STUCK .. as if it was PUT at WIDTH 1 from LENGTH on: 2");
        String text = "w2;m9;c0,1,1,33;c0,1,1,1;c0,1,1,2;b0,1;b0,2;";
        Asked x = Asked.on(text).is(7, "put", 0, 2, 0).is(10, "put", 1, 1, 7).is(12, "put", 2, 1, 7).is(12, "take", 0);
        x.is(12, "fill").lies(0, 2, 0).is(4, "undo").is(0, "rename", 0, 1).is(NO, "fill").why(20, 10, 2, 1);
        x.is(12, "take", 1).is(NO, "fill").why(20, 10, 2, 2).is(1, "count", 4).is(0, "take", 2).is(15, "fill").why(20, 10, 2, 2);
    }

    private static void stuckAtTheLowest() {
        Check.part("it is STUCK at that lowest one");
        Asked.on("m9;c0,1,3,1;c0,1,10,1;c0,1,3,1;").is(NO, "fill").why(21, 11, 4, 3).is(0, "count", 4);
        Asked.on("m9;c0,1,10,1;c0,1,10,1;c0,1,3,1;").is(NO, "fill").why(20, 10, 4, 0);
        Asked.on("m9;" + "c0,1,3,1;".repeat(5) + "c0,1,10,1;").is(NO, "fill").why(25, 15, 4, 6).is(0, "count", 4);
        Check.part("20 and how many it would have PUT ahead of it: not those that are PUT");
        Asked.on("m9;c0,1,3,1;c0,1,3,1;c0,1,10,1;").is(3, "put", 0, 1, 0).is(NO, "fill").why(21, 12, 4, 3).is(3, "put", 1, 1, 0).is(NO, "fill").why(20, 12, 4, 3);
    }

    private static void stuckAheadOfLength() {
        Check.part("as if it was PUT at WIDTH 1 from LENGTH on: LENGTH with those that were PUT ahead of it");
        Asked.on("w1;m9;c0,1,3,1;c0,1,3,2;c0,1,10,1;").is(NO, "fill").why(22, 12, 4, 8).is(0, "count", 5);
        Asked.on("w1;m9;c0,1,3,1;c0,1,3,2;c0,1,10,1;").is(53, "put", 0, 1, 50).is(NO, "fill").why(21, 12, 4, 53).is(53, "count", 5);
    }

    private static void stuckChangesNothing() {
        Check.part("it is STUCK .. and nothing at all is PUT");
        String text = "m9;c0,1,3,1;c0,1,3,2;c0,1,10,1;";
        Asked x = Asked.on(text).is(54, "put", 1, 2, 49).is(0, "rename", 0, 3).is(1, "keep");
        x.is(NO, "fill").is(NO, "fill").lies(0, NONE, NONE).lies(1, 2, 49).lies(2, NONE, NONE).is(54, "count", 5).is(2, "count", 7);
        x.looksLike(Asked.on(text).is(54, "put", 1, 2, 49).is(0, "rename", 0, 3).is(1, "keep"));
        x.is(1, "undo").is(0, "core", 0, 0).is(0, "undo").is(NO, "undo");
    }

    private static void undoNothing() {
        Check.part("undo: UNDONE: how many more can be. NO");
        Asked x = Asked.on(FREE).is(NO, "undo").is(0, "count", 7).is(5, "put", 0, 1, 0).is(0, "undo").is(NO, "undo").is(NO, "undo").is(0, "count", 7);
        x.looksLike(Asked.on(FREE)).why();
        new Asked().is(NO, "undo");
    }

    private static void undoOfEach() {
        Check.part("UNDONE are the latest of these: PUT, TAKEN OFF, FILLED, another KIND");
        Asked x = Asked.on(FREE).is(9, "put", 0, 2, 4).is(1, "count", 7).is(0, "undo").lies(0, NONE, NONE);
        x.is(9, "put", 0, 2, 4).is(0, "take", 0).is(1, "undo").lies(0, 2, 4).is(9, "count", 5);
        x.is(9, "fill").is(1, "undo").lies(0, 2, 4).lies(1, NONE, NONE).lies(2, NONE, NONE);
        x.is(0, "rename", 1, 2).is(1, "undo").is(0, "core", 1, 0).is(3, "wrap", 1, 1, 2).is(0, "undo").is(0, "count", 4);
    }

    private static void undoTheLastEight() {
        Check.part("UNDONE .. (the last 8 can be)");
        Asked x = Asked.on(FREE);
        for (int i = 1; i <= 8; i++) x.is((i - 1) % 4, "rename", 0, i % 4).is(i, "count", 7);
        for (int left = 7; left >= 0; left--) x.is(left, "undo").is(left % 4, "core", 0, 0).is(left, "count", 7);
        x.is(NO, "undo");
        Check.part("UNDONE: of nine, the first can be no more");
        x.is(5, "put", 0, 1, 0);
        for (int i = 1; i <= 8; i++) x.is((i - 1) % 4, "rename", 1, i % 4);
        x.is(8, "count", 7);
        for (int left = 7; left >= 0; left--) x.is(left, "undo").is(left % 4, "core", 1, 0);
        x.is(NO, "undo").lies(0, 1, 0);
        Check.part("UNDONE: of twenty the last 8");
        for (int i = 1; i <= 20; i++) x.is((i - 1) % 4, "rename", 2, i % 4).is(Math.min(i, 8), "count", 7);
        for (int left = 7; left >= 0; left--) x.is(left, "undo").is((left + 12) % 4, "core", 2, 0);
        x.is(NO, "undo").is(0, "core", 2, 0).lies(0, 1, 0);
    }

    private static void undoWhatWasDone() {
        Check.part("UNDONE: what was not done cannot be");
        Asked x = Asked.on(FREE + "b0,1;").is(5, "put", 0, 1, 0);
        x.refused(1, 1, 4, 1, 0).is(NO, "put", 0, 1, 0).is(NO, "take", 1).is(NO, "rename", 0, 1).is(NO, "rename", 1, 0).is(BAD, "put", 3, 1, 0);
        x.is(BAD, "take", 3).is(BAD, "rename", 1, 4).is(NO, "back").is(NO, "lay").is(1, "count", 7).is(0, "undo").is(0, "count", 4).is(NO, "undo");
        Check.part("UNDONE: what was UNDONE cannot be once more");
        x.is(0, "rename", 0, 1).is(0, "rename", 1, 1).is(1, "undo").is(0, "undo").is(NO, "undo").is(0, "core", 0, 0).is(0, "rename", 2, 3).is(0, "undo");
        x.is(0, "core", 2, 0).is(0, "core", 1, 0);
    }

    private static void undoOnlyTheActs() {
        Check.part("UNDONE: not what is written, SEEN, KEPT, forgotten or asked");
        Asked x = Asked.on(FREE).is(5, "put", 0, 1, 0).is(1, "write", 'w').is(1, "seen", 0, 1, 5).is(2, "seen", 0, 1, 5).is(1, "keep");
        x.is(7, "best", -1).is(0, "soonest", 1, 1).is(7, "bound", 1).is(15, "kinds", 1).is(1, "count", 7).is(0, "undo");
        x.is(1, "count", 9).is(2, "count", 6).is(1, "count", 8).is(0, "count", 4).is(NO, "undo").is(2, "forget").is(1, "wipe").is(NO, "undo");
        x.is(0, "back").lies(0, 1, 0);
    }

    private static void whyNone() {
        Check.part("WHY: how many numbers (i = -1; 0: none was so)");
        Asked x = Asked.on(FREE).why().is(NONE, "why", 0).is(NONE, "why", 1).is(5, "put", 0, 1, 0).is(NO, "put", 0, 1, 0).is(7, "fill").why();
        x.is(BAD, "put", 0, 0, 0).is(NO, "rename", 0, 1).is(NO, "back").is(NO, "lay").why();
        new Asked().why();
    }

    private static void whyOfPut() {
        Check.part("WHY of a put() three numbers: 10 and the CORE; the REASON; the CORE (REASON 1, 2), the CYCLE (3, 4)");
        Asked x = Asked.on("w3;m9;c0,1,3,2;c0,1,3,1;c0,1,3,3;c0,1,7,1;c0,1,9,1;c0,1,9,1;b0,1;b4,5;").is(NO, "put", 1, 1, 0).why(11, 1, 0);
        x.is(15, "put", 0, 2, 10).is(NO, "put", 2, 2, 8).why(12, 3, 10).is(NO, "put", 3, 1, 9).why(13, 4, 10);
        x.is(93, "put", 1, 1, 90).is(93, "take", 0).is(NO, "put", 0, 1, 86).why(10, 2, 1).is(NO, "put", 5, 1, 0).why(15, 1, 4);
        x.is(100002, "put", 3, 1, 99999).is(NO, "put", 2, 3, 99999).why(12, 3, 99999).is(NO, "put", 4, 2, 99999).why(14, 4, 99999);
        x.is(NO, "put", 4, 3, 99999).why(14, 3, 99999);
    }

    private static void whyOfFill() {
        Check.part("WHY of a fill() one ahead of these: 20 and how many it would have PUT ahead of it");
        Asked x = Asked.on("m9;c0,1,3,1;c0,1,3,2;c0,1,10,1;").is(NO, "fill").is(4, "why", -1).is(22, "why", 0).is(12, "why", 1).is(4, "why", 2);
        x.is(5, "why", 3).is(NONE, "why", 4).is(NONE, "why", 5);
    }

    private static void whyTheLatest() {
        Check.part("WHY the latest put() that was REFUSED, or fill() that was STUCK, was so");
        Asked x = Asked.on("m9;c0,1,3,1;c0,1,3,2;c0,1,10,1;b0,1;").refused(1, 1, 0, 1, 0).is(NO, "fill").why(22, 12, 4, 8);
        x.refused(1, 2, 7, 1, 0).is(NONE, "why", 3).refused(2, 1, 6, 4, 6).refused(2, 1, 5, 4, 5).is(3, "put", 0, 1, 0).is(NO, "fill").why(21, 12, 4, 8);
    }

    private static void whyStays() {
        Check.part("WHY is that of the latest one that was so: it stays behind all else");
        Asked x = Asked.on(FREE + "b0,1;").refused(1, 1, 0, 1, 0).is(1, "keep").is(5, "put", 0, 1, 0).is(5, "soonest", 1, 1).is(8, "fill").why(11, 1, 0);
        x.is(1, "undo").is(0, "undo").is(NO, "undo").why(11, 1, 0).refused(1, 1, 9, 1, 0).is(0, "back").why(11, 1, 0).is(0, "rename", 1, 1);
        x.is(NO, "put", 1, 1, 0).is(BAD, "put", 1, 4, 0).is(NO, "take", 1).is(0, "wipe").is(0, "forget").is(NO, "lay").why(11, 1, 0);
    }

    private static void whyBad() {
        Check.part("why: NONE: not so many; BAD (below -1)");
        Asked x = Asked.on(FREE + "b0,1;");
        for (int i : new int[] {-2, -3, -100, MIN}) x.is(BAD, "why", i);
        x.is(0, "why", -1).is(NONE, "why", 0).is(NONE, "why", MAX).refused(1, 1, 0, 1, 0).is(NONE, "why", 3).is(NONE, "why", 4).is(NONE, "why", MAX);
        x.is(BAD, "why", -2).is(BAD, "why", MIN).is(3, "why", -1).is(11, "why", 0);
    }

    private static void keepAtMost() {
        Check.part("KEPT is all as it stands .. : 2 at most. FULL");
        Asked x = Asked.on(FREE).is(0, "count", 8).is(1, "keep").is(1, "count", 8).is(2, "keep").is(2, "count", 8);
        x.is(5, "put", 0, 1, 0).is(FULL, "keep").is(FULL, "keep").is(2, "count", 8).is(1, "back").is(0, "count", 4).is(2, "keep").is(FULL, "keep");
        x.is(1, "back").is(0, "back").is(NO, "back").is(1, "keep");
    }

    private static void backNone() {
        Check.part("back: NO");
        new Asked().is(NO, "back");
        Asked x = Asked.on(FREE).is(5, "put", 0, 1, 0).is(NO, "back").is(1, "count", 7).lies(0, 1, 0).is(1, "keep").is(0, "take", 0);
        x.is(0, "back").lies(0, 1, 0).is(NO, "back").is(0, "count", 8).lies(0, 1, 0).is(0, "take", 0).is(1, "count", 7).is(NO, "back").is(1, "count", 7);
    }

    private static void backAsKeptLast() {
        Check.part("back: As KEPT last (it is KEPT no more then): how many are left");
        Asked x = Asked.on(FREE).is(9, "put", 0, 2, 4).is(0, "rename", 1, 1).is(1, "keep").is(0, "take", 0).is(1, "rename", 1, 2).is(0, "rename", 0, 3);
        x.is(2, "keep").is(60, "fill").is(60, "take", 2).is(1, "back").is(0, "count", 4).is(2, "core", 1, 0).is(3, "core", 0, 0).is(1, "count", 8);
        x.is(0, "rename", 2, 2).is(0, "back").lies(0, 2, 4).is(0, "core", 0, 0).is(1, "core", 1, 0).is(0, "core", 2, 0).is(9, "count", 5).is(NO, "back");
        Check.part("KEPT is all as it stands: what is done behind that does not change it");
        Asked y = Asked.on(FREE).is(9, "put", 0, 2, 4).is(1, "keep").is(0, "undo").is(0, "rename", 0, 1).is(7, "put", 0, 3, 0).is(0, "back");
        y.lies(0, 2, 4).is(0, "core", 0, 0).is(9, "count", 5).is(5, "wrap", 0, 1, 2);
    }

    private static void backUndoesNoMore() {
        Check.part("back: nothing is UNDONE then");
        Asked x = Asked.on(FREE).is(9, "put", 0, 2, 4).is(1, "keep").is(0, "take", 0).is(2, "count", 7).is(0, "back").is(0, "count", 7).is(NO, "undo");
        x.lies(0, 2, 4).is(0, "take", 0).is(0, "undo").lies(0, 2, 4).is(NO, "undo");
        Check.part("keep: what can be UNDONE stays");
        x.is(0, "rename", 1, 1).is(1, "keep").is(1, "count", 7).is(0, "undo").is(0, "core", 1, 0);
    }

    private static void backButTheTextAndWhatIsSeen() {
        Check.part("KEPT is all as it stands, but THE TEXT and what is SEEN, WHY");
        Asked x = Asked.on(FREE + "b0,1;").is(1, "write", 'w').is(1, "seen", 0, 1, 5).refused(1, 1, 0, 1, 0).is(5, "put", 0, 1, 0).is(1, "keep");
        x.is(2, "write", '9').is(3, "write", ';').is(2, "seen", 0, 1, 7).is(0, "undo").refused(1, 2, 8, 1, 0).is(5, "put", 0, 2, 0).refused(1, 1, 4, 1, 0);
        x.is(0, "back").is(3, "count", 9).is(0, "fault").is(2, "count", 6).is(0, "kinds", 0).why(11, 1, 0).lies(0, 1, 0);
        x.is(1, "keep").is(3, "wipe").is(2, "forget").is(0, "back").is(0, "count", 9).is(0, "count", 6).is(15, "kinds", 0);
    }
}
