/** Each sentence of the document's "Terms" that names a boundary case has a part of its own here. */
public final class TermsEdgesTest extends Checks {
    private static final String TERMS = "Terms";

    public static void main(String[] args) {
        pagesAndFrames();
        log();
        toWrite();
        toFind();
        power();
        toStart();
        exceptions();
        end();
    }

    // Pages and frames

    private static void pagesAndFrames() {
        holds("What it is", "An object is used for at most 512 calls after it has been made",
                TermsEdgesTest::theLastOf512Calls);
        holds(TERMS, "There are 256 PAGES of 64 words (ints), all 0 at first, on the medium.",
                TermsEdgesTest::firstAndLastPageAndWord);
        holds(TERMS, "256 PAGES of 64 words (ints)", TermsEdgesTest::leastAndGreatestInt);
        holds(TERMS, "Word 0 of a page is its MARK: 1 more than the SERIAL of the latest change in it, 0 for none",
                TermsEdgesTest::markOfNoneFirstAndLatest);
        holds(TERMS, "words 1 .. 63 can be changed", TermsEdgesTest::wordsThatCanBeChanged);
        holds(TERMS, "There are 8 FRAMES, 0 .. 7, in memory", TermsEdgesTest::eightFrames);
        holds(TERMS, "each empty or with a page", TermsEdgesTest::emptyOrWithAPage);
        holds(TERMS, "PINS (how often its page was fixed and not unfixed)", TermsEdgesTest::manyPinsAndNone);
        holds(TERMS, "is CHANGED when its page is other than on the medium", TermsEdgesTest::changedUntilWritten);
        holds(TERMS, "then it has a FIRST: the serial of the first change since", TermsEdgesTest::firstSinceWritten);
    }

    /** As many changes as 512 calls can hold; the first ones are in the log alone, and not done over later. */
    private static void theLastOf512Calls() {
        PagePool x = new PagePool();
        due("fix, call 1", x.fix(0), 0);
        for (int i = 1; i < 64; i++) {
            due("change, call " + (i + 1), x.change(0, i, 100 + i), 8 * (i - 1));
        }
        due("fix, call 65", x.fix(1), 1);
        for (int k = 0; k < 380; k++) {
            due("change, call " + (66 + k), x.change(1, 1, k), 8 * (63 + k));
        }
        due("force, call 446", x.force(), 8 * 443);
        due("cut, call 447", x.cut(), true);
        due("start, call 448", x.start(), 443);
        due("word, call 449", x.word(1, 1), 379);
        for (int i = 1; i < 64; i++) {
            due("word, call " + (449 + i), x.word(0, i), 100 + i);
        }
    }

    private static void firstAndLastPageAndWord() {
        PagePool x = new PagePool();
        for (int p : new int[] {0, 1, 254, 255}) {
            for (int i = 0; i < 64; i++) {
                due("onMedium(" + p + ", " + i + ")", x.onMedium(p, i), 0);
            }
        }
        changeOnce(x, 254, 63, 5);
        x.flush(254);
        due("the page behind it", x.onMedium(255, 0), 0);
        changeOnce(x, 255, 1, 6);
        changeOnce(x, 255, 63, 7);
        x.flush(255);
        due("page 255, word 1", x.onMedium(255, 1), 6);
        due("page 255, word 63", x.onMedium(255, 63), 7);
        due("page 254, word 63", x.onMedium(254, 63), 5);
        due("page 0, word 63", x.onMedium(0, 63), 0);
    }

    private static void leastAndGreatestInt() {
        PagePool x = new PagePool();
        changeOnce(x, 0, 1, Integer.MIN_VALUE);
        changeOnce(x, 0, 63, Integer.MAX_VALUE);
        changeOnce(x, 0, 2, NONE);
        x.force();
        x.cut();
        due("start", x.start(), 3);
        x.flush(0);
        due("the least int", x.onMedium(0, 1), Integer.MIN_VALUE);
        due("the greatest int", x.onMedium(0, 63), Integer.MAX_VALUE);
        due("NONE is a word as any", x.onMedium(0, 2), NONE);
    }

    private static void markOfNoneFirstAndLatest() {
        PagePool x = new PagePool();
        x.fix(0);
        x.fix(1);
        due("no change", x.word(0, 0), 0);
        x.change(0, 1, 5);
        due("the change 0", x.word(0, 0), 1);
        x.change(0, 1, 5);
        due("the change 8, which is the latest", x.word(0, 0), 9);
        due("another page", x.word(1, 0), 0);
        x.change(1, 1, 5);
        due("another page's change", x.word(0, 0), 9);
        due("not written yet", x.onMedium(0, 0), 0);
        x.flush(0);
        due("on the medium", x.onMedium(0, 0), 9);
    }

    private static void wordsThatCanBeChanged() {
        PagePool x = new PagePool();
        x.fix(0);
        dueThrow("word 0", () -> x.change(0, 0, 1), INDEX);
        due("word 1", x.change(0, 1, 1), 0);
        due("word 63", x.change(0, 63, 1), 8);
        dueThrow("word 64", () -> x.change(0, 64, 1), INDEX);
        dueThrow("word -1", () -> x.change(0, -1, 1), INDEX);
        due("word 62", x.word(0, 62), 0);
        due("word 1", x.word(0, 1), 1);
        due("word 63", x.word(0, 63), 1);
    }

    private static void eightFrames() {
        PagePool x = new PagePool();
        for (int p = 0; p < 8; p++) {
            due("fix", x.fix(100 + p), p);
        }
        due("a ninth page", x.fix(108), NONE);
        due("frame 7 is there", x.frame(7, 0), 107);
        dueThrow("frame 8 is not", () -> x.frame(8, 0), INDEX);
        dueThrow("frame -1 is not", () -> x.frame(-1, 0), INDEX);
    }

    private static void emptyOrWithAPage() {
        PagePool x = new PagePool();
        dueFrame(x, 0, NONE, 0, 0, 0, NONE);
        x.fix(0);
        dueFrame(x, 0, 0, 1, 1, 0, NONE);
        dueFrame(x, 1, NONE, 0, 0, 0, NONE);
        x.unfix(0);
        dueFrame(x, 0, 0, 0, 1, 0, NONE);
    }

    private static void manyPinsAndNone() {
        PagePool x = new PagePool();
        due("pins of an empty frame", x.frame(0, 1), 0);
        for (int n = 1; n <= 200; n++) {
            due("fix", x.fix(9), 0);
            due("pins", x.frame(0, 1), n);
        }
        for (int n = 50; n > 0; n--) {
            x.unfix(0);
        }
        due("pins", x.frame(0, 1), 150);
        due("no frame more is taken", x.frame(1, 0), NONE);
    }

    private static void changedUntilWritten() {
        PagePool x = new PagePool();
        x.fix(0);
        due("read only", x.frame(0, 3), 0);
        x.change(0, 1, 0);
        due("a change to what it is", x.frame(0, 3), 1);
        x.force();
        due("the log alone is forced", x.frame(0, 3), 1);
        x.unfix(0);
        due("unfixed", x.frame(0, 3), 1);
        x.flush(0);
        due("written", x.frame(0, 3), 0);
        x.cut();
        x.start();
        due("as on the medium after a start", x.frame(0, 3), 0);
    }

    private static void firstSinceWritten() {
        PagePool x = new PagePool();
        x.fix(0);
        due("none", x.frame(0, 4), NONE);
        x.change(0, 1, 1);
        due("the serial 0 is a first, too", x.frame(0, 4), 0);
        due("and makes changed", x.frame(0, 3), 1);
        x.change(0, 1, 2);
        due("the first one stays", x.frame(0, 4), 0);
        x.flush(0);
        due("none again", x.frame(0, 4), NONE);
        x.change(0, 1, 3);
        x.change(0, 1, 4);
        due("the first since", x.frame(0, 4), 16);
    }

    // The log

    private static void log() {
        holds(TERMS, "A CHANGE of a word takes 8 words at the log's end, in memory;"
                + " its serial is the place of the first of them (the log's places are 0, 1, 2, ..).",
                TermsEdgesTest::serialsFromZero);
        holds(TERMS, "it is forced word by word", TermsEdgesTest::forcedWordByWord);
        holds(TERMS, "At most 65536 words are there at a time", TermsEdgesTest::logIsFull);
        holds(TERMS, "the oldest changes can be given back", TermsEdgesTest::logGoesRound);
    }

    private static void serialsFromZero() {
        PagePool x = new PagePool();
        dueLog(x, 0, 0, 0);
        x.fix(0);
        due("the first change", x.change(0, 1, 1), 0);
        dueLog(x, 0, 0, 8);
        due("the second change", x.change(0, 1, 1), 8);
        dueLog(x, 0, 0, 16);
        due("nothing is written", x.writes(), 0);
        x.cut();
        dueLog(x, 0, 0, 0);
        x.start();
        x.fix(0);
        due("what was in memory alone is gone", x.change(0, 1, 1), 0);
    }

    private static void forcedWordByWord() {
        for (int n = 0; n <= 16; n++) {
            PagePool x = new PagePool();
            changeOnce(x, 0, 1, 1);
            changeOnce(x, 0, 2, 1);
            x.cutAfter(n);
            due("force, cut after " + n, x.force(), n < 16 ? NONE : 16);
            due("FORCED, cut after " + n, x.log(1), n);
            due("writes, cut after " + n, x.writes(), n);
        }
    }

    /** 65536 words are more than 512 calls can bring about; the bound is looked at all the same. */
    private static void logIsFull() {
        PagePool x = new PagePool();
        x.fix(0);
        x.fix(1);
        due("the first one", x.change(1, 63, 5), 0);
        for (int k = 1; k < 8191; k++) {
            due("change " + k, x.change(0, 1 + k % 62, k), k * 8);
        }
        due("the last one that has room", x.change(0, 63, 7), 65528);
        due("no room", x.change(0, 63, 8), NONE);
        dueLog(x, 0, 0, 65536);
        due("nothing is done", x.word(0, 63), 7);
        due("the mark stays", x.word(0, 0), 65529);
        x.force();
        x.cut();
        due("all are done again", x.start(), 8192);
        due("the first one", wordOf(x, 1, 63), 5);
        due("the last one", wordOf(x, 0, 63), 7);
        due("the one before it", wordOf(x, 0, 1 + 8190 % 62), 8190);
    }

    private static void logGoesRound() {
        PagePool x = new PagePool();
        x.fix(0);
        for (int k = 0; k < 8192; k++) {
            x.change(0, 1 + k % 63, k);
        }
        x.flush(0);
        due("trim", x.trim(), 65528);
        due("room again", x.change(0, 1, 5), 65536);
        due("and more", x.change(0, 2, 6), 65544);
        x.force();
        x.cut();
        due("start", x.start(), 2);
        due("word 1", wordOf(x, 0, 1), 5);
        due("word 2", wordOf(x, 0, 2), 6);
        dueLog(x, 65528, 65552, 65552);
    }

    // To write a frame

    private static void toWrite() {
        holds(TERMS, "the log is forced up to the end of the latest change in its page",
                TermsEdgesTest::logUpToTheLatestChange);
        holds(TERMS, "(if it is not yet)", TermsEdgesTest::logThatIsForced);
        holds(TERMS, "then the page is written to the SPARE place (one for all), by two halves,"
                + " and its number beside it, and then to its own place, by two halves",
                TermsEdgesTest::eachWriteOfAPage);
        holds(TERMS, "(one for all)", TermsEdgesTest::spareOfAnotherPage);
        holds(TERMS, "then the frame is not changed any more", TermsEdgesTest::changedNoMoreOnlyWhenWritten);
        holds(TERMS, "A page in whose own place one half alone is written is TORN.",
                TermsEdgesTest::tornByOneHalfAlone);
        holds("What it is", "a page is never on the medium before its log is",
                TermsEdgesTest::logComesBeforeThePage);
    }

    private static void logUpToTheLatestChange() {
        PagePool x = new PagePool();
        x.fix(0);
        x.fix(1);
        x.change(0, 1, 1);
        x.change(1, 1, 1);
        x.change(0, 1, 2);
        x.change(1, 1, 2);
        x.flush(0);
        dueLog(x, 0, 24, 32);
        due("three changes and the page", x.writes(), 24 + PAGE_WRITES);
    }

    private static void logThatIsForced() {
        PagePool x = new PagePool();
        x.fix(0);
        x.fix(1);
        x.change(0, 1, 1);
        x.force();
        x.change(0, 1, 2);
        x.flush(0);
        due("a part was forced", x.writes(), 16 + PAGE_WRITES);
        x.change(0, 1, 3);
        x.force();
        x.change(1, 1, 4);
        int before = x.writes();
        x.flush(0);
        due("all of the page's log was forced", x.writes() - before, PAGE_WRITES);
        dueLog(x, 0, 24, 32);
    }

    /** Both halves are on the medium with 1 and shall get 2, behind a forced log; power fails after n writes. */
    private static PagePool cutInPage(int n) {
        PagePool x = new PagePool();
        x.fix(7);
        x.change(0, 31, 1);
        x.change(0, 32, 1);
        x.flush(7);
        x.change(0, 31, 2);
        x.change(0, 32, 2);
        x.force();
        x.cutAfter(n);
        due("flush, cut after " + n, x.flush(7), n < PAGE_WRITES ? NONE : 1);
        return x;
    }

    private static void eachWriteOfAPage() {
        for (int n = 0; n <= PAGE_WRITES; n++) {
            PagePool x = cutInPage(n);
            due("writes, cut after " + n, x.writes(), 16 + PAGE_WRITES + 16 + n);
            due("isOn, cut after " + n, x.isOn(), n == PAGE_WRITES);
            due("first half, cut after " + n, x.onMedium(7, 31), n < 4 ? 1 : 2);
            due("second half, cut after " + n, x.onMedium(7, 32), n < 5 ? 1 : 2);
            due("mark, cut after " + n, x.onMedium(7, 0), n < 4 ? 9 : 25);
        }
    }

    private static void spareOfAnotherPage() {
        for (int n = 0; n < PAGE_WRITES; n++) {
            PagePool x = new PagePool();
            changeOnce(x, 3, 40, 33);
            x.flush(3);
            changeOnce(x, 4, 40, 44);
            x.force();
            x.cutAfter(n);
            x.flush(4);
            due("start, cut after " + n, x.start(), n < 4 ? 1 : 0);
            due("page 3, cut after " + n, wordOf(x, 3, 40), 33);
            due("page 3's own place, cut after " + n, x.onMedium(3, 40), 33);
            due("page 4, cut after " + n, wordOf(x, 4, 40), 44);
            due("page 4's own place, cut after " + n, x.onMedium(4, 40), n < 4 ? 0 : 44);
        }
    }

    private static void changedNoMoreOnlyWhenWritten() {
        PagePool x = new PagePool();
        x.fix(0);
        x.fix(1);
        x.change(0, 1, 1);
        x.change(1, 1, 1);
        x.flush(0);
        dueFrame(x, 0, 0, 1, 1, 0, NONE);
        dueFrame(x, 1, 1, 1, 1, 1, 8);
        due("changed", x.changed(), 1);
    }

    private static void tornByOneHalfAlone() {
        for (int n = 0; n <= PAGE_WRITES; n++) {
            due("torn, cut after " + n, cutInPage(n).torn(), n == 4 ? 1 : 0);
        }
    }

    private static void logComesBeforeThePage() {
        for (int n = 0; n < 16 + PAGE_WRITES; n++) {
            PagePool x = new PagePool();
            changeOnce(x, 0, 1, 1);
            changeOnce(x, 0, 33, 1);
            x.cutAfter(n);
            x.flush(0);
            due("the mark has its log, cut after " + n, x.onMedium(0, 0) == 0 || x.log(1) == 16, true);
            due("the word has its log, cut after " + n, x.onMedium(0, 1) == 0 || x.log(1) == 16, true);
        }
    }

    // To find a frame

    private static void toFind() {
        holds(TERMS, "the empty one with the least number", TermsEdgesTest::leastEmptyFrame);
        holds(TERMS, "the HAND (a frame's number, at first 0) goes round", TermsEdgesTest::handIsFirstAtZero);
        holds(TERMS, "at a frame that is pinned it goes on", TermsEdgesTest::handPassesPinned);
        holds(TERMS, "at a used one, that is used no more, and it goes on", TermsEdgesTest::handTakesUsedAway);
        holds(TERMS, "at another one it stops, behind that (the next number, round)",
                TermsEdgesTest::handStopsBehind);
        holds(TERMS, "behind that (the next number, round)", TermsEdgesTest::handWrapsBehindSeven);
        holds(TERMS, "the frame is written if it is changed", TermsEdgesTest::stolenFrameIsWritten);
        holds(TERMS, "and has the new page then", TermsEdgesTest::stolenFrameHasTheNewPage);
        holds(TERMS, "When all are pinned there is none.", TermsEdgesTest::allPinned);
    }

    private static void leastEmptyFrame() {
        PagePool x = new PagePool();
        for (int f = 0; f < 8; f++) {
            due("fix", x.fix(200 - f), f);
            // A frame without pins is not an empty one.
            x.unfix(f);
        }
        x.cut();
        x.start();
        due("after a start", x.fix(9), 0);
        due("after a start", x.fix(8), 1);
    }

    private static void handIsFirstAtZero() {
        PagePool x = fullUnpinned();
        due("all are used: a whole round, and 0", x.fix(50), 0);
        for (int f = 1; f < 8; f++) {
            due("used no more, frame " + f, x.frame(f, 2), 0);
        }
        due("frame 0 is used by its new page", x.frame(0, 2), 1);
    }

    private static void handPassesPinned() {
        PagePool x = full();
        x.unfix(6);
        due("6 alone can be taken", x.fix(50), 6);
        for (int f = 0; f < 8; f++) {
            due("pinned frames stay used, frame " + f, x.frame(f, 2), 1);
            due("pins of frame " + f, x.frame(f, 1), 1);
        }
    }

    private static void handTakesUsedAway() {
        PagePool x = fullUnpinned();
        x.fix(50);
        x.unfix(0);
        due("page 1 is used again", x.fix(1), 1);
        x.unfix(1);
        due("1 is passed once, 2 is taken", x.fix(51), 2);
        due("1 is used no more", x.frame(1, 2), 0);
        due("0 was not come to", x.frame(0, 2), 1);
        due("the next one", x.fix(52), 3);
    }

    private static void handStopsBehind() {
        PagePool x = full();
        x.unfix(3);
        due("fix", x.fix(50), 3);
        for (int f = 0; f < 8; f++) {
            x.unfix(f);
        }
        // All are used: a round from 4 to 4.
        due("the hand stood at 4", x.fix(51), 4);
        due("and stands at 5 now", x.fix(52), 5);
    }

    private static void handWrapsBehindSeven() {
        PagePool x = full();
        x.unfix(7);
        due("fix", x.fix(50), 7);
        for (int f = 0; f < 8; f++) {
            x.unfix(f);
        }
        due("the hand stood at 0", x.fix(51), 0);
        PagePool y = fullUnpinned();
        for (int n = 0; n < 20; n++) {
            int f = y.fix(60 + n);
            due("round and round, step " + n, f, n % 8);
            y.unfix(f);
        }
    }

    private static void stolenFrameIsWritten() {
        PagePool x = fullUnpinned();
        due("frame 0, not changed", x.fix(50), 0);
        due("nothing is written", x.writes(), 0);
        changeOnce(x, 1, 33, 5);
        due("1 is used, 2 is taken", x.fix(51), 2);
        for (int f = 3; f < 8; f++) {
            due("fix", x.fix(49 + f), f);
        }
        due("frame 1, changed", x.fix(60), 1);
        due("its log and the page", x.writes(), 8 + PAGE_WRITES);
        due("onMedium", x.onMedium(1, 33), 5);
        due("the one that was stolen is not changed", x.frame(1, 3), 0);
    }

    private static void stolenFrameHasTheNewPage() {
        PagePool x = fullUnpinned();
        changeOnce(x, 0, 63, 5);
        due("fix", x.fix(50), 0);
        dueFrame(x, 0, 50, 1, 1, 0, NONE);
        for (int i = 0; i < 64; i++) {
            due("the new page's word " + i, x.word(0, i), 0);
        }
        x.unfix(0);
        due("the old page is read again", x.fix(0), 1);
        due("its word", x.word(1, 63), 5);
        due("its mark", x.word(1, 0), 1);
    }

    private static void allPinned() {
        PagePool x = full();
        x.change(0, 1, 1);
        due("fix", x.fix(50), NONE);
        due("power is on", x.isOn(), true);
        due("nothing is written", x.writes(), 0);
        for (int f = 0; f < 8; f++) {
            dueFrame(x, f, f, 1, 1, f == 0 ? 1 : 0, f == 0 ? 0 : NONE);
        }
        x.unfix(5);
        due("one pin less", x.fix(50), 5);
    }

    // Power

    private static void power() {
        holds(TERMS, "when one more is to be made, it fails instead", TermsEdgesTest::failsInstead);
        holds(TERMS, "the call answers NONE", TermsEdgesTest::eachCallThatWritesAnswersNone);
        holds(TERMS, "all that is in memory is gone: frames are empty", TermsEdgesTest::framesAreEmptyThen);
        holds(TERMS, "the hand is 0", TermsEdgesTest::handIsZeroThen);
        holds(TERMS, "the log ends with FORCED", TermsEdgesTest::logEndsWithForcedThen);
        holds(TERMS, "Nothing more is said of failing then.", TermsEdgesTest::nothingMoreIsSaid);
    }

    private static void failsInstead() {
        PagePool x = new PagePool();
        x.fix(0);
        x.change(0, 1, 1);
        x.cutAfter(8);
        due("just enough", x.force(), 8);
        due("on: no more was to be made", x.isOn(), true);
        due("calls that write nothing", x.word(0, 1), 1);
        due("a change writes nothing", x.change(0, 1, 2), 8);
        due("trim writes nothing", x.trim(), 0);
        due("flush of what is in no frame writes nothing", x.flush(9), 0);
        due("still on", x.isOn(), true);
        due("one more", x.force(), NONE);
        due("off", x.isOn(), false);
        due("it was not made", x.writes(), 8);
        due("nor on the medium", x.log(1), 8);
    }

    private static void eachCallThatWritesAnswersNone() {
        PagePool x = fullUnpinned();
        changeOnce(x, 0, 1, 1);
        x.cutAfter(0);
        due("fix", x.fix(50), NONE);
        x.start();
        changeOnce(x, 0, 1, 1);
        x.cutAfter(0);
        due("flush", x.flush(0), NONE);
        x.start();
        changeOnce(x, 0, 1, 1);
        x.cutAfter(0);
        due("flushOldest", x.flushOldest(), NONE);
        x.start();
        changeOnce(x, 0, 1, 1);
        x.cutAfter(3);
        due("force", x.force(), NONE);
        x.cutAfter(0);
        due("start", x.start(), NONE);
        due("off", x.isOn(), false);
    }

    private static void framesAreEmptyThen() {
        PagePool x = full();
        x.change(3, 1, 1);
        x.cutAfter(2);
        x.force();
        dueEmptyFrames(x);
        due("changed", x.changed(), 0);
        due("oldest", x.oldest(0), NONE);
        x.start();
        dueEmptyFrames(x);
        due("what was changed is lost", wordOf(x, 3, 1), 0);
    }

    private static void handIsZeroThen() {
        PagePool x = fullUnpinned();
        x.fix(50);
        x.fix(51);
        x.change(0, 1, 1);
        x.cutAfter(0);
        x.force();
        x.start();
        for (int p = 0; p < 8; p++) {
            x.fix(p);
            x.unfix(p);
        }
        due("the hand was at 2, and is at 0", x.fix(60), 0);
    }

    private static void logEndsWithForcedThen() {
        for (int n = 0; n < 24; n++) {
            PagePool x = new PagePool();
            for (int p = 0; p < 3; p++) {
                changeOnce(x, p, 1, 1);
            }
            x.cutAfter(n);
            x.force();
            dueLog(x, 0, n, n);
        }
    }

    private static void nothingMoreIsSaid() {
        PagePool x = new PagePool();
        changeOnce(x, 0, 1, 1);
        x.cutAfter(0);
        x.force();
        x.start();
        changeOnce(x, 0, 1, 1);
        due("after a failure in a call", x.flush(0), 1);
        changeOnce(x, 0, 1, 2);
        x.cutAfter(2);
        x.cut();
        x.start();
        changeOnce(x, 0, 1, 3);
        due("after cut()", x.flush(0), 1);
        changeOnce(x, 0, 1, 4);
        x.cutAfter(3);
        x.force();
        x.cutAfter(1);
        due("a failure in start", x.start(), NONE);
        due("after a failure in start", x.start(), 0);
    }

    // To start

    private static void toStart() {
        holds(TERMS, "when at the log's end a change was begun (some of its words are there, not all),"
                + " it is filled up by the words that lack, which are forced", TermsEdgesTest::begunChange);
        holds(TERMS, "and is none (its places are passed over)", TermsEdgesTest::filledUpIsNone);
        holds(TERMS, "(some of its words are there, not all)", TermsEdgesTest::noWordAndAllWords);
        holds(TERMS, "then the torn page, if there is one, is written to its own place from the spare one"
                + " (which has it whole then), by two halves", TermsEdgesTest::tornPageIsMended);
        holds(TERMS, "all changes that the log has are gone through in order", TermsEdgesTest::inOrder);
        holds(TERMS, "the page is fixed", TermsEdgesTest::pagesAreFixedThoughTheyHaveAll);
        holds(TERMS, "if its mark is not above the change's serial, the word is changed and the mark set",
                TermsEdgesTest::markAndSerial);
        holds(TERMS, "(without a new change)", TermsEdgesTest::withoutANewChange);
        holds(TERMS, "unfixed", TermsEdgesTest::noPinsAreLeft);
        holds(TERMS, "Frames that are needed for that are found and written as ever.",
                TermsEdgesTest::framesForNinePages);
        holds(TERMS, "Power can be told to fail within it, too.", TermsEdgesTest::failsAtEachWriteOfStart);
    }

    /** One whole change, and n words of a second one. */
    private static PagePool begun(int n) {
        PagePool x = new PagePool();
        changeOnce(x, 5, 1, 1);
        x.force();
        changeOnce(x, 5, 1, 2);
        x.cutAfter(n);
        x.force();
        x.cut();
        return x;
    }

    private static void begunChange() {
        for (int n = 1; n < 8; n++) {
            PagePool x = begun(n);
            dueLog(x, 0, 8 + n, 8 + n);
            due("start, " + n + " words", x.start(), 1);
            dueLog(x, 0, 16, 16);
            due("writes, " + n + " words", x.writes(), 16);
            due("force, " + n + " words", x.force(), 0);
        }
    }

    private static void filledUpIsNone() {
        for (int n = 1; n < 8; n++) {
            PagePool x = begun(n);
            x.start();
            due("word, " + n + " words", wordOf(x, 5, 1), 1);
            due("mark, " + n + " words", wordOf(x, 5, 0), 1);
            due("the next serial, " + n + " words", changeOnce(x, 6, 1, 3), 16);
            x.force();
            x.cut();
            due("the next start, " + n + " words", x.start(), 2);
            due("word, " + n + " words", wordOf(x, 5, 1), 1);
        }
        PagePool y = new PagePool();
        changeOnce(y, 9, 1, 1);
        y.cutAfter(1);
        y.force();
        y.start();
        due("a page of none is not fixed", y.frame(0, 0), NONE);
    }

    private static void noWordAndAllWords() {
        PagePool x = begun(0);
        due("no word: start", x.start(), 1);
        dueLog(x, 0, 8, 8);
        due("no word: word", wordOf(x, 5, 1), 1);
        due("no word: writes", x.writes(), 8);
        PagePool y = begun(8);
        due("all words: start", y.start(), 2);
        dueLog(y, 0, 16, 16);
        due("all words: word", wordOf(y, 5, 1), 2);
        due("all words: writes", y.writes(), 16);
    }

    private static void tornPageIsMended() {
        for (int n = 0; n < PAGE_WRITES; n++) {
            PagePool x = cutInPage(n);
            int before = x.writes();
            due("start, cut after " + n, x.start(), n < 4 ? 2 : 0);
            due("writes of start, cut after " + n, x.writes() - before, n < 4 ? 0 : 2);
            due("torn, cut after " + n, x.torn(), 0);
            due("first half, cut after " + n, x.onMedium(7, 31), n < 4 ? 1 : 2);
            due("second half, cut after " + n, x.onMedium(7, 32), n < 4 ? 1 : 2);
        }
    }

    private static void inOrder() {
        PagePool x = new PagePool();
        changeOnce(x, 0, 1, 1);
        changeOnce(x, 1, 1, 7);
        changeOnce(x, 0, 1, 2);
        changeOnce(x, 0, 1, 3);
        x.force();
        x.cut();
        due("start", x.start(), 4);
        dueFrame(x, 0, 0, 0, 1, 1, 0);
        dueFrame(x, 1, 1, 0, 1, 1, 8);
        due("the last one stays", x.word(0, 1), 3);
        due("mark", x.word(0, 0), 25);
    }

    private static void pagesAreFixedThoughTheyHaveAll() {
        PagePool x = new PagePool();
        changeOnce(x, 3, 1, 1);
        x.flush(3);
        x.cut();
        due("start", x.start(), 0);
        dueFrame(x, 0, 3, 0, 1, 0, NONE);
    }

    private static void markAndSerial() {
        PagePool x = new PagePool();
        changeOnce(x, 3, 1, 1);
        changeOnce(x, 3, 1, 2);
        x.flush(3);
        changeOnce(x, 3, 1, 3);
        x.force();
        x.cut();
        due("mark 9: above 0 and 8, not above 16", x.start(), 1);
        due("first", x.frame(0, 4), 16);
        due("mark", x.word(0, 0), 17);
        due("word", x.word(0, 1), 3);
        PagePool y = new PagePool();
        changeOnce(y, 3, 1, 1);
        y.force();
        y.cut();
        due("mark 0: not above the serial 0", y.start(), 1);
        y.flush(3);
        y.cut();
        due("mark 1: above the serial 0", y.start(), 0);
    }

    private static void withoutANewChange() {
        PagePool x = new PagePool();
        changeOnce(x, 3, 1, 1);
        x.force();
        for (int n = 0; n < 3; n++) {
            x.cut();
            due("start", x.start(), 1);
            dueLog(x, 0, 8, 8);
            due("mark", x.word(0, 0), 1);
        }
        due("writes", x.writes(), 8);
    }

    private static void noPinsAreLeft() {
        PagePool x = new PagePool();
        changeOnce(x, 3, 1, 1);
        changeOnce(x, 3, 1, 2);
        changeOnce(x, 4, 1, 2);
        x.flush(4);
        x.cut();
        x.start();
        due("pins", x.frame(0, 1), 0);
        due("pins of a page that had all", x.frame(1, 1), 0);
        dueThrow("unfix", () -> x.unfix(0), STATE);
        dueThrow("change", () -> x.change(1, 1, 1), STATE);
    }

    /** The log has changes of the pages 0 .. 8; 0 and 1 were stolen, and so are on the medium. */
    private static PagePool ninePagesInTheLog() {
        PagePool x = new PagePool();
        for (int p = 0; p < 8; p++) {
            changeOnce(x, p, 40, p + 1);
        }
        x.force();
        x.cut();
        x.start();
        changeOnce(x, 8, 40, 9);
        changeOnce(x, 0, 1, 10);
        x.force();
        x.cut();
        return x;
    }

    private static void framesForNinePages() {
        PagePool x = ninePagesInTheLog();
        int before = x.writes();
        // 8 takes the frame of page 0 and then page 0 that of page 1: both are not changed.
        due("start", x.start(), 8);
        due("writes of start", x.writes() - before, 0);
        dueFrame(x, 0, 8, 0, 1, 1, 64);
        dueFrame(x, 1, 0, 0, 1, 1, 72);
        dueFrame(x, 2, 2, 0, 0, 1, 16);
        due("the hand is behind it", x.fix(100), 2);
        due("and the frame was written", x.onMedium(2, 40), 3);
    }

    /** Pages 1 .. 7 are in the log alone, 0 is written, 8 takes a changed frame at start. */
    private static PagePool startThatSteals() {
        PagePool x = new PagePool();
        for (int p = 1; p < 8; p++) {
            x.change(x.fix(p), 40, p);
        }
        changeOnce(x, 0, 40, 100);
        x.flush(0);
        changeOnce(x, 8, 40, 8);
        x.force();
        x.cut();
        return x;
    }

    private static void failsAtEachWriteOfStart() {
        for (int n = 0; n <= PAGE_WRITES; n++) {
            PagePool x = startThatSteals();
            int before = x.writes();
            x.cutAfter(n);
            due("start, cut after " + n, x.start(), n < PAGE_WRITES ? NONE : 8);
            due("isOn, cut after " + n, x.isOn(), n == PAGE_WRITES);
            due("writes, cut after " + n, x.writes() - before, n);
            due("torn, cut after " + n, x.torn(), n == 4 ? 1 : 0);
            due("page 1, cut after " + n, x.onMedium(1, 40), n < 5 ? 0 : 1);
        }
        for (int n = 0; n < 5; n++) {
            PagePool x = begun(3);
            x.cutAfter(n);
            due("start, cut in what is filled up, after " + n, x.start(), NONE);
            dueLog(x, 0, 11 + n, 11 + n);
            due("start again", x.start(), 1);
            dueLog(x, 0, 16, 16);
        }
        for (int n = 0; n < 2; n++) {
            PagePool x = cutInPage(4);
            x.cutAfter(n);
            due("start, cut in mending, after " + n, x.start(), NONE);
            due("torn", x.torn(), 1);
            due("start again", x.start(), 0);
            due("torn", x.torn(), 0);
            due("word", wordOf(x, 7, 32), 2);
        }
    }

    // Exceptions

    private static void exceptions() {
        holds(TERMS, "A call that throws changes nothing", TermsEdgesTest::throwsAndChangesNothing);
        holds(TERMS, "of several exceptions the one that stands first in the throws clause is thrown",
                TermsEdgesTest::theFirstOfSeveral);
        holds(TERMS, "IllegalStateException, where it is listed: power is off", TermsEdgesTest::powerIsOff);
        holds(TERMS, "where it is listed", TermsEdgesTest::callsThatAreAnsweredWhileOff);
        holds(TERMS, "IndexOutOfBoundsException: there is no such page, frame or word.",
                TermsEdgesTest::noSuchPageFrameOrWord);
    }

    /** All frames have pages: 0 and 5 are pinned, 2 and 5 changed; the hand is at 1; 30 writes are left. */
    private static void busy(PagePool x) {
        for (int p = 0; p < 8; p++) {
            x.fix(p);
            x.unfix(p);
        }
        x.fix(40);
        x.fix(5);
        x.change(5, 1, 1);
        x.flush(5);
        x.change(5, 33, 2);
        x.fix(2);
        x.change(2, 1, 3);
        x.unfix(2);
        x.cutAfter(30);
    }

    private static void busyAndOff(PagePool x) {
        busy(x);
        // Its log, the spare place and one half: the page is torn.
        x.cutAfter(8 + 4);
        x.flush(5);
        x.cutAfter(30);
    }

    private static void throwsAndChangesNothing() {
        changesNothing("fix(256)", TermsEdgesTest::busy, x -> x.fix(256), INDEX);
        changesNothing("unfix(1)", TermsEdgesTest::busy, x -> x.unfix(1), STATE);
        changesNothing("unfix(8)", TermsEdgesTest::busy, x -> x.unfix(8), INDEX);
        changesNothing("change(2, 1, 9)", TermsEdgesTest::busy, x -> x.change(2, 1, 9), STATE);
        changesNothing("change(5, 0, 9)", TermsEdgesTest::busy, x -> x.change(5, 0, 9), INDEX);
        changesNothing("change(5, 64, 9)", TermsEdgesTest::busy, x -> x.change(5, 64, 9), INDEX);
        changesNothing("change(8, 1, 9)", TermsEdgesTest::busy, x -> x.change(8, 1, 9), INDEX);
        changesNothing("word(5, 64)", TermsEdgesTest::busy, x -> x.word(5, 64), INDEX);
        changesNothing("frame(5, 5)", TermsEdgesTest::busy, x -> x.frame(5, 5), INDEX);
        changesNothing("flush(-1)", TermsEdgesTest::busy, x -> x.flush(-1), INDEX);
        changesNothing("log(3)", TermsEdgesTest::busy, x -> x.log(3), INDEX);
        changesNothing("onMedium(0, 64)", TermsEdgesTest::busy, x -> x.onMedium(0, 64), INDEX);
        changesNothing("cutAfter(-2)", TermsEdgesTest::busy, x -> x.cutAfter(-2), ARGUMENT);
        changesNothing("start()", TermsEdgesTest::busy, PagePool::start, STATE);
        changesNothing("fix(9), off", TermsEdgesTest::busyAndOff, x -> x.fix(9), STATE);
        changesNothing("unfix(5), off", TermsEdgesTest::busyAndOff, x -> x.unfix(5), STATE);
        changesNothing("change(5, 1, 1), off", TermsEdgesTest::busyAndOff, x -> x.change(5, 1, 1), STATE);
        changesNothing("word(5, 1), off", TermsEdgesTest::busyAndOff, x -> x.word(5, 1), STATE);
        changesNothing("flush(5), off", TermsEdgesTest::busyAndOff, x -> x.flush(5), STATE);
        changesNothing("flushOldest(), off", TermsEdgesTest::busyAndOff, PagePool::flushOldest, STATE);
        changesNothing("force(), off", TermsEdgesTest::busyAndOff, PagePool::force, STATE);
        changesNothing("trim(), off", TermsEdgesTest::busyAndOff, PagePool::trim, STATE);
        changesNothing("cutAfter(-2), off", TermsEdgesTest::busyAndOff, x -> x.cutAfter(-2), ARGUMENT);
    }

    /** Two pools go the same way, but for the call that throws; what is hidden shows in the calls behind it. */
    private static void changesNothing(String what, Steps way, Steps call, String exception) {
        PagePool without = new PagePool();
        PagePool with = new PagePool();
        way.on(without);
        way.on(with);
        dueThrow(what, () -> {
            call.on(with);
            return 0;
        }, exception);
        dueAlike(what, with, without);
        if (!with.isOn()) {
            due(what + ", start", with.start(), without.start());
            dueAlike(what + ", start", with, without);
        }
        for (int p = 100; p < 110 && with.isOn(); p++) {
            due(what + ", fix(" + p + ")", with.fix(p), without.fix(p));
            dueAlike(what + ", fix(" + p + ")", with, without);
        }
        for (int n = 0; n < 5 && with.isOn(); n++) {
            int f = with.fix(with.frame(0, 0));
            without.fix(without.frame(0, 0));
            with.change(f, 1, 5);
            without.change(f, 1, 5);
            due(what + ", force", with.force(), without.force());
            dueAlike(what + ", force", with, without);
        }
    }

    private static void dueAlike(String what, PagePool got, PagePool want) {
        due(what + ", isOn", got.isOn(), want.isOn());
        due(what + ", writes", got.writes(), want.writes());
        due(what + ", torn", got.torn(), want.torn());
        for (int which = 0; which < 3; which++) {
            due(what + ", log", got.log(which), want.log(which));
        }
        for (int f = 0; f < 8; f++) {
            for (int about = 0; about < 5; about++) {
                due(what + ", frame(" + f + ", " + about + ")", got.frame(f, about), want.frame(f, about));
            }
            for (int i = 0; i < 64 && want.isOn() && got.isOn() && want.frame(f, 0) != NONE; i++) {
                due(what + ", word(" + f + ", " + i + ")", got.word(f, i), want.word(f, i));
            }
        }
        for (int p = 0; p < 8; p++) {
            for (int i = 0; i < 64; i++) {
                due(what + ", onMedium(" + p + ", " + i + ")", got.onMedium(p, i), want.onMedium(p, i));
            }
        }
    }

    private static void theFirstOfSeveral() {
        PagePool x = new PagePool();
        x.fix(0);
        x.unfix(0);
        dueThrow("change: no pins, word 64", () -> x.change(0, 64, 1), STATE);
        dueThrow("change: no pins, word 0", () -> x.change(0, 0, 1), STATE);
        dueThrow("change: an empty frame, word -1", () -> x.change(1, -1, 1), STATE);
        dueThrow("word: an empty frame, word 64", () -> x.word(1, 64), STATE);
        x.cut();
        dueThrow("fix: off, page 256", () -> x.fix(256), STATE);
        dueThrow("fix: off, page -1", () -> x.fix(-1), STATE);
        dueThrow("unfix: off, frame 8", () -> x.unfix(8), STATE);
        dueThrow("unfix: off, frame -1", () -> x.unfix(-1), STATE);
        dueThrow("change: off, frame 8", () -> x.change(8, 1, 1), STATE);
        dueThrow("change: off, word 0", () -> x.change(0, 0, 1), STATE);
        dueThrow("word: off, frame -1", () -> x.word(-1, 1), STATE);
        dueThrow("word: off, word 64", () -> x.word(0, 64), STATE);
        dueThrow("flush: off, page 256", () -> x.flush(256), STATE);
    }

    private static void powerIsOff() {
        PagePool x = off();
        dueThrow("fix", () -> x.fix(0), STATE);
        dueThrow("unfix", () -> x.unfix(0), STATE);
        dueThrow("change", () -> x.change(0, 1, 1), STATE);
        dueThrow("word", () -> x.word(0, 1), STATE);
        dueThrow("flush", () -> x.flush(0), STATE);
        dueThrow("flushOldest", x::flushOldest, STATE);
        dueThrow("force", x::force, STATE);
        dueThrow("trim", x::trim, STATE);
    }

    private static void callsThatAreAnsweredWhileOff() {
        PagePool x = new PagePool();
        changeOnce(x, 255, 1, 4);
        x.flush(255);
        x.cut();
        due("frame", x.frame(0, 0), NONE);
        due("changed", x.changed(), 0);
        due("oldest", x.oldest(0), NONE);
        due("log", x.log(2), 8);
        due("onMedium", x.onMedium(255, 1), 4);
        due("torn", x.torn(), 0);
        due("writes", x.writes(), 8 + PAGE_WRITES);
        x.cutAfter(NONE);
        due("cut", x.cut(), false);
        due("isOn", x.isOn(), false);
        dueThrow("frame(8, 0)", () -> x.frame(8, 0), INDEX);
        dueThrow("log(-1)", () -> x.log(-1), INDEX);
        dueThrow("onMedium(256, 0)", () -> x.onMedium(256, 0), INDEX);
    }

    private static void noSuchPageFrameOrWord() {
        PagePool x = new PagePool();
        x.fix(255);
        for (int bad : NO_PAGE) {
            dueThrow("fix(" + bad + ")", () -> x.fix(bad), INDEX);
            dueThrow("flush(" + bad + ")", () -> x.flush(bad), INDEX);
            dueThrow("onMedium(" + bad + ", 0)", () -> x.onMedium(bad, 0), INDEX);
        }
        for (int bad : NO_FRAME) {
            dueThrow("unfix(" + bad + ")", () -> x.unfix(bad), INDEX);
            dueThrow("change(" + bad + ", 1, 1)", () -> x.change(bad, 1, 1), INDEX);
            dueThrow("word(" + bad + ", 1)", () -> x.word(bad, 1), INDEX);
            dueThrow("frame(" + bad + ", 0)", () -> x.frame(bad, 0), INDEX);
        }
        for (int bad : NO_WORD) {
            dueThrow("change(0, " + bad + ", 1)", () -> x.change(0, bad, 1), INDEX);
            dueThrow("word(0, " + bad + ")", () -> x.word(0, bad), INDEX);
            dueThrow("onMedium(255, " + bad + ")", () -> x.onMedium(255, bad), INDEX);
        }
    }
}
