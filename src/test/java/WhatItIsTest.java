/** Each part of the document's first sentence has a part of its own here. */
public final class WhatItIsTest extends Checks {
    private static final String PLACE = "What it is";

    public static void main(String[] args) {
        holds(PLACE, "pages are fixed in frames, changed word by word", WhatItIsTest::fixedAndChanged);
        holds(PLACE, "each change written to a log first", WhatItIsTest::inTheLogFirst);
        holds(PLACE, "stolen by others when frames run out", WhatItIsTest::stolenWhenFramesRunOut);
        holds(PLACE, "stolen by others when frames run out (by the hand, as the frames are used)",
                WhatItIsTest::stolenWhatIsNotUsed);
        holds(PLACE, "written when that is asked, never when work is done", WhatItIsTest::writtenWhenAsked);
        holds(PLACE, "a page is never on the medium before its log is", WhatItIsTest::neverBeforeItsLog);
        holds(PLACE, "behind any cut a torn page is mended from a spare place", WhatItIsTest::tornIsMended);
        holds(PLACE, "all that the log has is done again", WhatItIsTest::doneAgain);
        end();
    }

    private static void fixedAndChanged() {
        PagePool x = new PagePool();
        int f = x.fix(9);
        for (int i = 1; i < 64; i++) {
            x.change(f, i, -i);
            for (int j = 1; j < 64; j++) {
                due("word " + j + " behind the change of " + i, x.word(f, j), j <= i ? -j : 0);
            }
        }
    }

    private static void inTheLogFirst() {
        PagePool x = new PagePool();
        int f = x.fix(9);
        for (int k = 1; k <= 5; k++) {
            x.change(f, k, k);
            dueLog(x, 0, 0, 8 * k);
            due("on the medium", x.onMedium(9, k), 0);
        }
        due("least writes", x.writes(), 0);
    }

    /** One empty frame is enough for nothing to be stolen; a changed page is on the medium when it was. */
    private static void stolenWhenFramesRunOut() {
        PagePool x = new PagePool();
        for (int p = 0; p < 8; p++) {
            changeOnce(x, p, 1, 10 + p);
            due("least writes with " + p + " pages", x.writes(), 0);
        }
        due("fix(8)", x.fix(8), 0);
        due("page 0 on the medium", x.onMedium(0, 1), 10);
        due("least writes", x.writes(), 8 + PAGE_WRITES);
        due("frame 1 is not written", x.frame(1, 3), 1);
        due("page 1 on the medium", x.onMedium(1, 1), 0);
        due("fix(0), once more", x.fix(0), 1);
        due("page 0 in its new frame", x.word(1, 1), 10);
        due("page 1 on the medium now", x.onMedium(1, 1), 11);
    }

    private static void stolenWhatIsNotUsed() {
        PagePool x = fullUnpinned();
        due("fix(8): all were used", x.fix(8), 0);
        due("fix(2), in its frame", x.fix(2), 2);
        x.unfix(2);
        due("fix(9)", x.fix(9), 1);
        due("fix(10): 2 was used since", x.fix(10), 3);
    }

    private static void writtenWhenAsked() {
        PagePool x = new PagePool();
        int f = x.fix(9);
        x.fix(9);
        x.change(f, 1, 5);
        x.unfix(f);
        x.unfix(f);
        due("changed when work is done", x.frame(f, 3), 1);
        x.word(f, 1);
        x.trim();
        x.flush(8);
        due("least writes", x.writes(), 0);
        due("on the medium", x.onMedium(9, 1), 0);
        x.force();
        due("the log alone is forced", x.onMedium(9, 1), 0);
        due("flush(9)", x.flush(9), 1);
        due("on the medium when asked", x.onMedium(9, 1), 5);
        x.fix(9);
        x.change(f, 1, 6);
        due("flushOldest()", x.flushOldest(), 9);
        due("a pinned page, when asked", x.onMedium(9, 1), 6);
        due("its pins", x.frame(f, 1), 1);
    }

    /** Of two pages that were changed in turn, each with its log as far as it needs it. */
    private static void neverBeforeItsLog() {
        for (int n = 0; n <= 16 + PAGE_WRITES; n++) {
            PagePool x = new PagePool();
            int a = x.fix(0);
            int b = x.fix(1);
            x.change(a, 1, 1);
            x.change(b, 1, 2);
            x.change(a, 2, 3);
            x.cutAfter(n);
            due("flush(1), " + n + " writes", x.flush(1), n < 16 + PAGE_WRITES ? NONE : 1);
            due("forced, " + n + " writes", x.log(1), Math.min(n, 16));
            due("mark, " + n + " writes", x.onMedium(1, 0), n < 16 + 4 ? 0 : 9);
        }
    }

    private static void tornIsMended() {
        PagePool x = new PagePool();
        int f = x.fix(200);
        x.change(f, 31, 1);
        x.change(f, 32, 2);
        x.cutAfter(16 + 4);
        due("flush(200)", x.flush(200), NONE);
        due("torn", x.torn(), 1);
        due("the first half", x.onMedium(200, 31), 1);
        due("the second half", x.onMedium(200, 32), 0);
        due("start()", x.start(), 0);
        due("torn behind it", x.torn(), 0);
        due("the first half, mended", x.onMedium(200, 31), 1);
        due("the second half, mended", x.onMedium(200, 32), 2);
    }

    /** More pages than frames, so that what is done again is stolen, too. */
    private static void doneAgain() {
        PagePool x = new PagePool();
        for (int p = 0; p < 12; p++) {
            changeOnce(x, p, 1, 100 + p);
        }
        due("stolen pages", x.onMedium(3, 1), 103);
        x.force();
        changeOnce(x, 11, 2, 7);
        x.cut();
        due("start()", x.start(), 8);
        for (int p = 0; p < 12; p++) {
            due("page " + p, wordOf(x, p, 1), 100 + p);
        }
        due("what the log had not", wordOf(x, 11, 2), 0);
    }
}
