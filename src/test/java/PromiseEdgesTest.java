/** Each sentence of the promises 1 to 20 that names a boundary case has a part of its own here. */
public final class PromiseEdgesTest extends Checks {

    public static void main(String[] args) {
        newObject();
        fix();
        unfix();
        change();
        word();
        frame();
        flush();
        flushOldest();
        force();
        trim();
        changed();
        oldest();
        log();
        onMedium();
        torn();
        writes();
        cutAfter();
        cut();
        start();
        isOn();
        end();
    }

    // Promise 1

    private static void newObject() {
        String promise = "Promise 1";
        holds(promise, "All pages are 0", () -> {
            PagePool x = new PagePool();
            for (int p = 0; p < 256; p += 51) {
                for (int i = 0; i < 64; i++) {
                    due("onMedium(" + p + ", " + i + ")", x.onMedium(p, i), 0);
                }
            }
        });
        holds(promise, "frames empty", () -> dueEmptyFrames(new PagePool()));
        holds(promise, "power is on", () -> due("isOn", new PagePool().isOn(), true));
        holds(promise, "A new object", PromiseEdgesTest::nothingIsSharedWithAnotherObject);
    }

    private static void nothingIsSharedWithAnotherObject() {
        PagePool x = new PagePool();
        changeOnce(x, 0, 1, 5);
        x.flush(0);
        x.cutAfter(0);
        PagePool y = new PagePool();
        dueEmptyFrames(y);
        dueLog(y, 0, 0, 0);
        due("writes", y.writes(), 0);
        due("onMedium", y.onMedium(0, 1), 0);
        changeOnce(y, 0, 1, 5);
        due("nothing is said of failing", y.flush(0), 1);
        x.cut();
        due("isOn", y.isOn(), true);
    }

    // Promise 2

    private static void fix() {
        String promise = "Promise 2";
        holds(promise, "A page is fixed (once more, if it is in a frame)", PromiseEdgesTest::fixOnceMore);
        holds(promise, "its frame, which is used then", PromiseEdgesTest::fixMakesUsed);
        holds(promise, "NONE when there is no frame", PromiseEdgesTest::fixWithoutFrame);
        holds(promise, "(the hand has gone round then)", PromiseEdgesTest::handHasGoneRound);
        holds(promise, "or power fails", PromiseEdgesTest::powerFailsInFix);
        holds(promise, "fix: IllegalStateException", () -> dueThrow("fix(0), off", () -> off().fix(0), STATE));
        holds(promise, "fix: IndexOutOfBoundsException", PromiseEdgesTest::fixOfNoPage);
    }

    private static void fixOnceMore() {
        PagePool x = full();
        due("fix(7), all pinned", x.fix(7), 7);
        due("pins", x.frame(7, 1), 2);
        due("fix(0), all pinned", x.fix(0), 0);
        due("pins", x.frame(0, 1), 2);
        x.change(0, 1, 5);
        due("what was changed stays", x.fix(0), 0);
        due("word", x.word(0, 1), 5);
        dueFrame(x, 0, 0, 3, 1, 1, 0);
        x.unfix(3);
        due("a page without pins is in its frame still", x.fix(3), 3);
        due("pins", x.frame(3, 1), 1);
    }

    private static void fixMakesUsed() {
        PagePool x = fullUnpinned();
        x.fix(50);
        due("used no more", x.frame(4, 2), 0);
        x.fix(4);
        due("used once more", x.frame(4, 2), 1);
        x.unfix(4);
        due("to be unfixed does not end that", x.frame(4, 2), 1);
        due("a page that came by the hand is used", x.frame(0, 2), 1);
        due("a page that came into an empty frame is used", full().frame(7, 2), 1);
    }

    private static void fixWithoutFrame() {
        PagePool x = full();
        due("fix(8)", x.fix(8), NONE);
        due("fix(255)", x.fix(255), NONE);
        due("isOn", x.isOn(), true);
        x.fix(3);
        x.unfix(3);
        due("one pin of two is a pin", x.fix(8), NONE);
        x.unfix(3);
        due("no pin", x.fix(8), 3);
    }

    private static void handHasGoneRound() {
        for (int at = 0; at < 8; at++) {
            PagePool x = full();
            x.unfix(at);
            x.fix(50);
            // The hand is behind the frame that was taken.
            due("all pinned", x.fix(51), NONE);
            due("all pinned, again", x.fix(51), NONE);
            for (int f = 0; f < 8; f++) {
                due("used", x.frame(f, 2), 1);
                x.unfix(f);
            }
            due("the hand is where it was, behind " + at, x.fix(52), (at + 1) % 8);
        }
    }

    private static void powerFailsInFix() {
        for (int n = 0; n <= 8 + PAGE_WRITES; n++) {
            PagePool x = fullUnpinned();
            changeOnce(x, 0, 40, 5);
            x.cutAfter(n);
            boolean fails = n < 8 + PAGE_WRITES;
            due("fix, cut after " + n, x.fix(50), fails ? NONE : 0);
            due("isOn, cut after " + n, x.isOn(), !fails);
            due("frame 0, cut after " + n, x.frame(0, 0), fails ? NONE : 50);
            due("writes, cut after " + n, x.writes(), n);
        }
        PagePool y = fullUnpinned();
        y.cutAfter(0);
        due("a frame that is not changed needs no write", y.fix(50), 0);
        due("isOn", y.isOn(), true);
    }

    private static void fixOfNoPage() {
        PagePool x = new PagePool();
        for (int bad : NO_PAGE) {
            dueThrow("fix(" + bad + ")", () -> x.fix(bad), INDEX);
        }
        dueEmptyFrames(x);
        due("fix(0)", x.fix(0), 0);
        due("fix(255)", x.fix(255), 1);
        PagePool y = full();
        dueThrow("fix(256), all pinned", () -> y.fix(256), INDEX);
    }

    // Promise 3

    private static void unfix() {
        String promise = "Promise 3";
        holds(promise, "A frame's page is unfixed once: how many pins are left.", () -> {
            PagePool x = new PagePool();
            x.fix(9);
            x.fix(9);
            x.fix(9);
            due("two are left", x.unfix(0), 2);
            due("one is left", x.unfix(0), 1);
            due("none is left", x.unfix(0), 0);
            dueFrame(x, 0, 9, 0, 1, 0, NONE);
        });
        holds(promise, "IllegalStateException (also when it has none)", PromiseEdgesTest::unfixWithoutPins);
        holds(promise, "unfix: IllegalStateException", () -> {
            PagePool x = full();
            x.cut();
            dueThrow("unfix(0), off", () -> x.unfix(0), STATE);
        });
        holds(promise, "unfix: IndexOutOfBoundsException", () -> {
            PagePool x = full();
            for (int bad : NO_FRAME) {
                dueThrow("unfix(" + bad + ")", () -> x.unfix(bad), INDEX);
            }
            due("unfix(7)", x.unfix(7), 0);
            due("unfix(0)", x.unfix(0), 0);
        });
    }

    private static void unfixWithoutPins() {
        PagePool x = new PagePool();
        dueThrow("an empty frame", () -> x.unfix(0), STATE);
        x.fix(9);
        dueThrow("an empty frame beside it", () -> x.unfix(1), STATE);
        x.unfix(0);
        dueThrow("once too often", () -> x.unfix(0), STATE);
        due("pins stay 0", x.frame(0, 1), 0);
        due("fix", x.fix(9), 0);
        due("pins", x.frame(0, 1), 1);
    }

    // Promise 4

    private static void change() {
        String promise = "Promise 4";
        holds(promise, "Word i (1 .. 63) of a frame's page is changed", PromiseEdgesTest::changeOfEachWord);
        holds(promise, "(also to what it is)", PromiseEdgesTest::changeToWhatItIs);
        holds(promise, "the change's serial", () -> {
            PagePool x = full();
            due("the first", x.change(7, 1, 1), 0);
            due("of another frame", x.change(0, 1, 1), 8);
            due("of the first again", x.change(7, 1, 1), 16);
        });
        holds(promise, "NONE when the log has no room (nothing is done then)", PromiseEdgesTest::changeWithoutRoom);
        holds(promise, "IllegalStateException (also when it has no pins)", PromiseEdgesTest::changeWithoutPins);
        holds(promise, "change: IndexOutOfBoundsException", PromiseEdgesTest::changeOfNoWord);
    }

    private static void changeOfEachWord() {
        PagePool x = new PagePool();
        x.fix(3);
        for (int i = 1; i < 64; i++) {
            due("change(0, " + i + ")", x.change(0, i, 100 + i), 8 * (i - 1));
        }
        for (int i = 1; i < 64; i++) {
            due("word(0, " + i + ")", x.word(0, i), 100 + i);
        }
        due("mark", x.word(0, 0), 8 * 62 + 1);
    }

    private static void changeToWhatItIs() {
        PagePool x = new PagePool();
        x.fix(3);
        due("0 to 0", x.change(0, 1, 0), 0);
        due("again", x.change(0, 1, 0), 8);
        dueFrame(x, 0, 3, 1, 1, 1, 0);
        dueLog(x, 0, 0, 16);
        due("flush", x.flush(3), 1);
        due("mark on the medium", x.onMedium(3, 0), 9);
        due("5", x.change(0, 1, 5), 16);
        x.flush(3);
        due("5 to 5", x.change(0, 1, 5), 24);
        due("changed", x.frame(0, 3), 1);
        x.force();
        x.cut();
        due("start does it again", x.start(), 1);
    }

    /** More than 512 calls are needed for it. */
    private static void changeWithoutRoom() {
        PagePool x = new PagePool();
        x.fix(0);
        x.fix(1);
        for (int k = 0; k < 8192; k++) {
            x.change(0, 1, k);
        }
        due("change", x.change(1, 1, 5), NONE);
        dueFrame(x, 1, 1, 1, 1, 0, NONE);
        due("word", x.word(1, 1), 0);
        due("mark", x.word(1, 0), 0);
        dueLog(x, 0, 0, 65536);
        due("isOn", x.isOn(), true);
        dueThrow("a wrong word is that still", () -> x.change(1, 64, 5), INDEX);
        x.force();
        due("forced, but not given back", x.change(1, 1, 5), NONE);
    }

    private static void changeWithoutPins() {
        PagePool x = new PagePool();
        dueThrow("an empty frame", () -> x.change(0, 1, 1), STATE);
        x.fix(3);
        x.unfix(0);
        dueThrow("a page without pins", () -> x.change(0, 1, 1), STATE);
        dueLog(x, 0, 0, 0);
        due("word", x.word(0, 1), 0);
        x.fix(3);
        due("with a pin", x.change(0, 1, 1), 0);
        x.cut();
        dueThrow("off", () -> x.change(0, 1, 1), STATE);
    }

    private static void changeOfNoWord() {
        PagePool x = new PagePool();
        x.fix(3);
        dueThrow("the mark", () -> x.change(0, 0, 1), INDEX);
        for (int bad : NO_WORD) {
            dueThrow("change(0, " + bad + ", 1)", () -> x.change(0, bad, 1), INDEX);
        }
        for (int bad : NO_FRAME) {
            dueThrow("change(" + bad + ", 1, 1)", () -> x.change(bad, 1, 1), INDEX);
        }
        dueLog(x, 0, 0, 0);
        dueFrame(x, 0, 3, 1, 1, 0, NONE);
    }

    // Promise 5

    private static void word() {
        String promise = "Promise 5";
        holds(promise, "Word i of a frame's page.", () -> {
            PagePool x = full();
            x.change(7, 1, 5);
            x.change(7, 63, 6);
            due("the mark can be read", x.word(7, 0), 9);
            due("word 1", x.word(7, 1), 5);
            due("word 63", x.word(7, 63), 6);
            due("another frame", x.word(6, 63), 0);
            x.unfix(7);
            due("without pins", x.word(7, 63), 6);
        });
        holds(promise, "IllegalStateException (also when the frame is empty)", () -> {
            PagePool x = new PagePool();
            dueThrow("an empty frame", () -> x.word(0, 1), STATE);
            x.fix(0);
            due("no more", x.word(0, 1), 0);
            dueThrow("an empty frame beside it", () -> x.word(1, 1), STATE);
            x.cut();
            dueThrow("off", () -> x.word(0, 1), STATE);
            x.start();
            dueThrow("empty after a start", () -> x.word(0, 1), STATE);
        });
        holds(promise, "word: IndexOutOfBoundsException", () -> {
            PagePool x = full();
            for (int bad : NO_WORD) {
                dueThrow("word(0, " + bad + ")", () -> x.word(0, bad), INDEX);
            }
            for (int bad : NO_FRAME) {
                dueThrow("word(" + bad + ", 0)", () -> x.word(bad, 0), INDEX);
            }
        });
    }

    // Promise 6

    private static void frame() {
        String promise = "Promise 6";
        holds(promise, "its page (0), pins (1), 1 when it is used (2), 1 when changed (3), its first (4)", () -> {
            PagePool x = full();
            x.fix(7);
            x.change(6, 1, 1);
            x.change(7, 1, 1);
            dueFrame(x, 7, 7, 2, 1, 1, 8);
            dueFrame(x, 6, 6, 1, 1, 1, 0);
            dueFrame(x, 0, 0, 1, 1, 0, NONE);
        });
        holds(promise, "NONE for page and first when there is none (then the others are 0)",
                PromiseEdgesTest::frameOfNone);
        holds(promise, "All this is told while power is off, too.", () -> {
            PagePool x = full();
            x.change(0, 1, 1);
            x.cut();
            dueEmptyFrames(x);
            dueThrow("frame(8, 0)", () -> x.frame(8, 0), INDEX);
            dueThrow("frame(0, 5)", () -> x.frame(0, 5), INDEX);
        });
        holds(promise, "IndexOutOfBoundsException (also for another what)", () -> {
            PagePool x = full();
            for (int bad : new int[] {-1, 5, Integer.MIN_VALUE, Integer.MAX_VALUE}) {
                dueThrow("frame(0, " + bad + ")", () -> x.frame(0, bad), INDEX);
                dueThrow("an empty one: frame(0, " + bad + ")", () -> new PagePool().frame(0, bad), INDEX);
            }
            for (int bad : NO_FRAME) {
                dueThrow("frame(" + bad + ", 0)", () -> x.frame(bad, 0), INDEX);
            }
        });
    }

    private static void frameOfNone() {
        PagePool x = new PagePool();
        dueFrame(x, 0, NONE, 0, 0, 0, NONE);
        x.fix(0);
        dueFrame(x, 0, 0, 1, 1, 0, NONE);
        x.change(0, 1, 1);
        dueFrame(x, 0, 0, 1, 1, 1, 0);
        x.flush(0);
        dueFrame(x, 0, 0, 1, 1, 0, NONE);
        dueFrame(x, 7, NONE, 0, 0, 0, NONE);
    }

    // Promise 7

    private static void flush() {
        String promise = "Promise 7";
        holds(promise, "1 when it was", () -> {
            PagePool x = new PagePool();
            x.fix(255);
            x.change(0, 63, 5);
            due("flush of a pinned page", x.flush(255), 1);
            due("onMedium", x.onMedium(255, 63), 5);
            dueFrame(x, 0, 255, 1, 1, 0, NONE);
            x.change(0, 63, 6);
            x.unfix(0);
            due("flush of a page without pins", x.flush(255), 1);
            due("onMedium", x.onMedium(255, 63), 6);
        });
        holds(promise, "0 when there was nothing to do", PromiseEdgesTest::nothingToFlush);
        holds(promise, "NONE when power fails", PromiseEdgesTest::powerFailsInFlush);
        holds(promise, "flush: IllegalStateException", () -> dueThrow("flush(0), off", () -> off().flush(0), STATE));
        holds(promise, "flush: IndexOutOfBoundsException", () -> {
            for (int bad : NO_PAGE) {
                dueThrow("flush(" + bad + ")", () -> new PagePool().flush(bad), INDEX);
                dueThrow("flush(" + bad + "), full", () -> full().flush(bad), INDEX);
            }
        });
    }

    private static void nothingToFlush() {
        PagePool x = new PagePool();
        x.cutAfter(0);
        due("a page in no frame", x.flush(0), 0);
        due("the last page", x.flush(255), 0);
        x.fix(0);
        due("a page that is not changed", x.flush(0), 0);
        x.fix(1);
        x.change(1, 1, 1);
        due("another one is changed", x.flush(0), 0);
        x.cutAfter(NONE);
        x.flush(1);
        x.cutAfter(0);
        due("a page that was flushed", x.flush(1), 0);
        due("isOn", x.isOn(), true);
        due("writes", x.writes(), 8 + PAGE_WRITES);
    }

    private static void powerFailsInFlush() {
        for (int n = 0; n <= 8 + PAGE_WRITES; n++) {
            PagePool x = new PagePool();
            changeOnce(x, 0, 40, 5);
            x.cutAfter(n);
            boolean fails = n < 8 + PAGE_WRITES;
            due("flush, cut after " + n, x.flush(0), fails ? NONE : 1);
            due("isOn, cut after " + n, x.isOn(), !fails);
            due("writes, cut after " + n, x.writes(), n);
            due("frame 0, cut after " + n, x.frame(0, 0), fails ? NONE : 0);
        }
    }

    // Promise 8

    private static void flushOldest() {
        String promise = "Promise 8";
        holds(promise, "The changed frame with the least first is written: its page", PromiseEdgesTest::leastFirst);
        holds(promise, "NONE when none is changed", () -> {
            PagePool x = new PagePool();
            due("all are empty", x.flushOldest(), NONE);
            x.fix(0);
            due("none is changed", x.flushOldest(), NONE);
            x.change(0, 1, 1);
            due("one is", x.flushOldest(), 0);
            due("no more", x.flushOldest(), NONE);
            due("isOn", x.isOn(), true);
            due("writes", x.writes(), 8 + PAGE_WRITES);
        });
        holds(promise, "flushOldest: or power fails", () -> {
            for (int n = 0; n <= 8 + PAGE_WRITES; n++) {
                PagePool x = new PagePool();
                changeOnce(x, 9, 40, 5);
                x.cutAfter(n);
                boolean fails = n < 8 + PAGE_WRITES;
                due("flushOldest, cut after " + n, x.flushOldest(), fails ? NONE : 9);
                due("isOn, cut after " + n, x.isOn(), !fails);
            }
        });
        holds(promise, "flushOldest: IllegalStateException",
                () -> dueThrow("flushOldest, off", () -> off().flushOldest(), STATE));
    }

    private static void leastFirst() {
        PagePool x = new PagePool();
        for (int p = 20; p < 28; p++) {
            x.fix(p);
        }
        for (int f = 7; f >= 0; f--) {
            x.change(f, 1, 1);
        }
        x.change(7, 1, 2);
        due("the first 0, though it was changed last", x.flushOldest(), 27);
        x.change(7, 1, 3);
        due("the first 8", x.flushOldest(), 26);
        for (int p = 25; p >= 20; p--) {
            due("the next one", x.flushOldest(), p);
        }
        due("the one that was changed again", x.flushOldest(), 27);
        due("none", x.flushOldest(), NONE);
    }

    // Promise 9

    private static void force() {
        String promise = "Promise 9";
        holds(promise, "The log is forced: how many words were written", () -> {
            PagePool x = new PagePool();
            due("an empty log", x.force(), 0);
            changeOnce(x, 0, 1, 1);
            due("one change", x.force(), 8);
            due("again", x.force(), 0);
            changeOnce(x, 0, 1, 1);
            changeOnce(x, 1, 1, 1);
            x.flush(0);
            due("what a flush has left", x.force(), 8);
            dueLog(x, 0, 24, 24);
            due("pages are not written", x.onMedium(1, 1), 0);
            x.cutAfter(0);
            due("nothing to write, no failure", x.force(), 0);
            due("isOn", x.isOn(), true);
        });
        holds(promise, "force: NONE when power fails", () -> {
            for (int n = 0; n <= 8; n++) {
                PagePool x = new PagePool();
                changeOnce(x, 0, 1, 1);
                x.cutAfter(n);
                due("force, cut after " + n, x.force(), n < 8 ? NONE : 8);
                due("isOn, cut after " + n, x.isOn(), n == 8);
                due("END, cut after " + n, x.log(2), n);
            }
        });
        holds(promise, "force: IllegalStateException", () -> dueThrow("force, off", () -> off().force(), STATE));
    }

    // Promise 10

    private static void trim() {
        String promise = "Promise 10";
        holds(promise, "those before the least first", PromiseEdgesTest::trimToTheLeastFirst);
        holds(promise, "or, when no frame is changed, those before the last one (which stays",
                PromiseEdgesTest::trimToTheLastOne);
        holds(promise, "what was filled up is none)", PromiseEdgesTest::trimAndWhatWasFilledUp);
        holds(promise, "what was filled up is none), and nothing else is there", PromiseEdgesTest::trimOfNothing);
        holds(promise, "but none from the first one on that is not wholly forced", PromiseEdgesTest::trimNotForced);
        holds(promise, "How many words.", () -> {
            PagePool x = new PagePool();
            due("a new object", x.trim(), 0);
            for (int n = 0; n < 5; n++) {
                changeOnce(x, 0, 1, n);
            }
            x.flush(0);
            int before = x.writes();
            due("four changes", x.trim(), 32);
            due("none", x.trim(), 0);
            dueLog(x, 32, 40, 40);
            due("nothing is written for it", x.writes(), before);
        });
        holds(promise, "trim: IllegalStateException", () -> {
            PagePool x = new PagePool();
            changeOnce(x, 0, 1, 1);
            changeOnce(x, 0, 1, 2);
            x.flush(0);
            x.cut();
            dueThrow("trim, off", x::trim, STATE);
            dueLog(x, 0, 16, 16);
        });
    }

    private static void trimToTheLeastFirst() {
        PagePool x = full();
        x.change(0, 1, 1);
        due("the first is where the log begins", x.trim(), 0);
        x.change(1, 1, 1);
        x.change(0, 1, 2);
        x.change(2, 1, 1);
        x.flush(0);
        due("the least first is 8", x.trim(), 8);
        due("again", x.trim(), 0);
        x.flush(2);
        due("8 still", x.trim(), 0);
        x.change(2, 1, 2);
        x.flush(1);
        due("the least first is 32", x.trim(), 24);
        dueLog(x, 32, 32, 40);
        x.force();
        x.cut();
        due("what is left is enough", x.start(), 1);
        due("page 2", wordOf(x, 2, 1), 2);
        due("page 1", wordOf(x, 1, 1), 1);
        due("page 0", wordOf(x, 0, 1), 2);
    }

    private static void trimToTheLastOne() {
        PagePool x = new PagePool();
        changeOnce(x, 0, 1, 1);
        x.flush(0);
        due("one change stays", x.trim(), 0);
        dueLog(x, 0, 8, 8);
        changeOnce(x, 0, 1, 2);
        x.flush(0);
        due("the first of two goes", x.trim(), 8);
        due("the last one stays", x.trim(), 0);
        dueLog(x, 8, 16, 16);
        x.cut();
        due("start", x.start(), 0);
        due("its page was fixed", x.frame(0, 0), 0);
    }

    /** A change of the page is begun in the log, and filled up by the start behind it. */
    private static void fillUpOne(PagePool x, int page) {
        changeOnce(x, page, 1, 99);
        x.cutAfter(5);
        x.force();
        x.start();
    }

    private static void trimAndWhatWasFilledUp() {
        PagePool x = new PagePool();
        changeOnce(x, 0, 1, 1);
        changeOnce(x, 0, 1, 2);
        x.flush(0);
        fillUpOne(x, 0);
        fillUpOne(x, 0);
        dueLog(x, 0, 32, 32);
        due("the last change is 8", x.trim(), 8);
        dueLog(x, 8, 32, 32);
        due("again", x.trim(), 0);
        due("the next serial", changeOnce(x, 0, 1, 3), 32);
        due("the least first is 32", x.trim(), 24);
        dueLog(x, 32, 32, 40);
    }

    private static void trimOfNothing() {
        PagePool x = new PagePool();
        fillUpOne(x, 0);
        due("nothing but what was filled up", x.trim(), 0);
        dueLog(x, 0, 8, 8);
        changeOnce(x, 0, 1, 1);
        due("what was filled up goes with the rest", x.trim(), 8);
        x.cut();
        dueLog(x, 8, 8, 8);
        x.start();
        due("an empty log", x.trim(), 0);
        due("the next serial", changeOnce(x, 0, 1, 1), 8);
    }

    private static void trimNotForced() {
        PagePool x = full();
        x.change(0, 1, 1);
        x.change(1, 1, 1);
        due("nothing is forced", x.trim(), 0);
        x.flush(0);
        due("the first one is", x.trim(), 8);
        dueLog(x, 8, 8, 16);
        due("the second one is not", x.trim(), 0);
        x.change(0, 1, 2);
        x.flush(0);
        due("the second one is, but not written", x.trim(), 0);
        x.change(0, 1, 3);
        x.flush(1);
        due("up to one that is not forced", x.trim(), 16);
        dueLog(x, 24, 24, 32);
    }

    // Promises 11 to 13

    private static void changed() {
        String promise = "Promise 11";
        holds(promise, "How many frames are changed.", () -> {
            PagePool x = new PagePool();
            due("all are empty", x.changed(), 0);
            for (int p = 0; p < 8; p++) {
                x.fix(p);
            }
            due("none", x.changed(), 0);
            for (int f = 0; f < 8; f++) {
                x.change(f, 1, 0);
                due("one more", x.changed(), f + 1);
            }
            x.change(3, 1, 0);
            due("no frame more", x.changed(), 8);
            x.flush(7);
            due("one less", x.changed(), 7);
            x.cut();
            due("off", x.changed(), 0);
            x.start();
            due("started: all were in the log that the flush forced", x.changed(), 7);
        });
    }

    private static void oldest() {
        String promise = "Promise 12";
        holds(promise, "The k-th changed frame (from 0) by their firsts", () -> {
            PagePool x = full();
            for (int f = 7; f >= 0; f--) {
                x.change(f, 1, 1);
            }
            for (int k = 0; k < 8; k++) {
                due("oldest(" + k + ")", x.oldest(k), 7 - k);
            }
            x.flush(7);
            x.change(7, 1, 2);
            due("oldest(0)", x.oldest(0), 6);
            due("oldest(7)", x.oldest(7), 7);
        });
        holds(promise, "oldest: NONE.", PromiseEdgesTest::noOldest);
    }

    private static void noOldest() {
        PagePool x = new PagePool();
        due("all are empty", x.oldest(0), NONE);
        x.fix(0);
        x.fix(1);
        due("none is changed", x.oldest(0), NONE);
        x.change(1, 1, 1);
        due("one is", x.oldest(0), 1);
        for (int k : new int[] {-1, 1, 7, 8, Integer.MIN_VALUE, Integer.MAX_VALUE}) {
            due("oldest(" + k + ")", x.oldest(k), NONE);
        }
        x.cut();
        due("off", x.oldest(0), NONE);
    }

    private static void log() {
        String promise = "Promise 13";
        holds(promise, "Where the log begins (0), FORCED (1), END (2).", () -> {
            PagePool x = new PagePool();
            dueLog(x, 0, 0, 0);
            changeOnce(x, 0, 1, 1);
            changeOnce(x, 1, 1, 1);
            x.flush(0);
            changeOnce(x, 2, 1, 1);
            x.trim();
            dueLog(x, 8, 8, 24);
            x.force();
            dueLog(x, 8, 24, 24);
            x.cut();
            dueLog(x, 8, 24, 24);
            x.start();
            dueLog(x, 8, 24, 24);
        });
        holds(promise, "log: IndexOutOfBoundsException", () -> {
            for (int bad : new int[] {-1, 3, Integer.MIN_VALUE, Integer.MAX_VALUE}) {
                dueThrow("log(" + bad + ")", () -> new PagePool().log(bad), INDEX);
                dueThrow("log(" + bad + "), off", () -> off().log(bad), INDEX);
            }
        });
    }

    // Promises 14 to 16

    private static void onMedium() {
        String promise = "Promise 14";
        holds(promise, "Word i of a page on the medium (in its own place).", () -> {
            PagePool x = new PagePool();
            changeOnce(x, 255, 63, 5);
            due("in memory alone", x.onMedium(255, 63), 0);
            x.force();
            due("in the log alone", x.onMedium(255, 63), 0);
            x.cutAfter(3);
            x.flush(255);
            due("in the spare place alone", x.onMedium(255, 63), 0);
            due("off", x.onMedium(0, 0), 0);
            x.start();
            x.flush(255);
            due("written", x.onMedium(255, 63), 5);
            due("its mark", x.onMedium(255, 0), 1);
        });
        holds(promise, "onMedium: IndexOutOfBoundsException", () -> {
            PagePool x = new PagePool();
            for (int bad : NO_PAGE) {
                dueThrow("onMedium(" + bad + ", 0)", () -> x.onMedium(bad, 0), INDEX);
                dueThrow("onMedium(" + bad + ", 64)", () -> x.onMedium(bad, 64), INDEX);
            }
            for (int bad : NO_WORD) {
                dueThrow("onMedium(0, " + bad + ")", () -> x.onMedium(0, bad), INDEX);
                dueThrow("onMedium(1, " + bad + ")", () -> x.onMedium(1, bad), INDEX);
            }
        });
    }

    private static void torn() {
        String promise = "Promise 15";
        holds(promise, "How many pages are torn.", () -> {
            PagePool x = new PagePool();
            due("at first", x.torn(), 0);
            changeOnce(x, 0, 1, 1);
            x.cutAfter(8 + 4);
            x.flush(0);
            due("one, though its second half is as it was", x.torn(), 1);
            x.cut();
            due("one still", x.torn(), 1);
            x.start();
            due("none", x.torn(), 0);
            changeOnce(x, 0, 1, 2);
            x.flush(0);
            due("none in a page that was written whole", x.torn(), 0);
        });
    }

    private static void writes() {
        String promise = "Promise 16";
        holds(promise, "How many least writes were made.", () -> {
            PagePool x = new PagePool();
            due("at first", x.writes(), 0);
            changeOnce(x, 0, 1, 1);
            due("none for a change", x.writes(), 0);
            x.cutAfter(0);
            x.force();
            due("none that failed", x.writes(), 0);
            x.start();
            due("none for a start without need", x.writes(), 0);
            changeOnce(x, 0, 1, 1);
            x.cutAfter(1);
            x.force();
            due("a word", x.writes(), 1);
            x.start();
            due("what was filled up", x.writes(), 8);
            changeOnce(x, 0, 1, 1);
            x.cutAfter(8 + 4);
            x.flush(0);
            due("its log, the spare place, the number and a half", x.writes(), 20);
            x.start();
            due("two halves to mend it", x.writes(), 22);
        });
    }

    // Promises 17 to 20

    private static void cutAfter() {
        String promise = "Promise 17";
        holds(promise, "Power fails after n more least writes (0: at the next one", PromiseEdgesTest::nMoreWrites);
        holds(promise, "in place of what was said before", PromiseEdgesTest::inPlaceOfWhatWasSaid);
        holds(promise, "it may be said while power is off, too", PromiseEdgesTest::saidWhileOff);
        holds(promise, "never with NONE", () -> {
            PagePool x = new PagePool();
            changeOnce(x, 0, 1, 1);
            x.cutAfter(0);
            x.cutAfter(NONE);
            due("flush", x.flush(0), 1);
            changeOnce(x, 0, 1, 2);
            x.cut();
            x.cutAfter(0);
            x.cutAfter(NONE);
            x.start();
            changeOnce(x, 0, 1, 3);
            due("flush", x.flush(0), 1);
        });
        holds(promise, "IllegalArgumentException when n is less than that.", () -> {
            PagePool x = new PagePool();
            changeOnce(x, 0, 1, 1);
            x.cutAfter(3);
            for (int bad : new int[] {-2, -3, Integer.MIN_VALUE}) {
                dueThrow("cutAfter(" + bad + ")", () -> {
                    x.cutAfter(bad);
                    return 0;
                }, ARGUMENT);
            }
            due("what was said stays", x.force(), NONE);
            due("three words", x.log(1), 3);
            dueThrow("cutAfter(-2), off", () -> {
                x.cutAfter(-2);
                return 0;
            }, ARGUMENT);
        });
    }

    private static void nMoreWrites() {
        PagePool x = new PagePool();
        changeOnce(x, 0, 1, 1);
        x.cutAfter(0);
        due("0: nothing fails before a write", x.isOn(), true);
        due("0: at the next one", x.force(), NONE);
        due("0: writes", x.writes(), 0);
        x.start();
        changeOnce(x, 0, 1, 1);
        x.force();
        changeOnce(x, 0, 1, 1);
        x.cutAfter(1);
        due("1", x.force(), NONE);
        due("1: those before do not count", x.writes(), 9);
        x.start();
        changeOnce(x, 0, 1, 1);
        changeOnce(x, 1, 1, 1);
        x.cutAfter(8 + PAGE_WRITES + 2);
        due("over several calls", x.flush(0), 1);
        due("over several calls", x.force(), NONE);
        x.start();
        x.cutAfter(Integer.MAX_VALUE);
        changeOnce(x, 0, 1, 1);
        due("the greatest int", x.flush(0), 1);
    }

    private static void inPlaceOfWhatWasSaid() {
        PagePool x = new PagePool();
        changeOnce(x, 0, 1, 1);
        x.cutAfter(0);
        x.cutAfter(6);
        due("more", x.force(), NONE);
        due("six words", x.log(1), 6);
        PagePool y = new PagePool();
        changeOnce(y, 0, 1, 1);
        y.cutAfter(6);
        y.cutAfter(2);
        due("less", y.force(), NONE);
        due("two words", y.log(1), 2);
        PagePool z = new PagePool();
        changeOnce(z, 0, 1, 1);
        z.cutAfter(10);
        z.force();
        changeOnce(z, 0, 1, 1);
        z.cutAfter(3);
        due("counted from when it is said", z.force(), NONE);
        due("three words more", z.log(1), 11);
    }

    private static void saidWhileOff() {
        PagePool x = new PagePool();
        changeOnce(x, 0, 1, 1);
        x.cutAfter(3);
        x.force();
        x.cutAfter(4);
        due("cut", x.cut(), false);
        due("start", x.start(), NONE);
        due("four words more", x.log(1), 7);
        x.cutAfter(1);
        due("just enough for start", x.start(), 0);
        changeOnce(x, 0, 1, 1);
        due("it holds behind start", x.force(), NONE);
        due("no word more", x.log(1), 8);
    }

    private static void cut() {
        String promise = "Promise 18";
        holds(promise, "Power fails now", () -> {
            PagePool x = fullUnpinned();
            x.fix(50);
            x.change(0, 1, 1);
            x.force();
            x.change(0, 1, 2);
            due("cut", x.cut(), true);
            due("isOn", x.isOn(), false);
            dueEmptyFrames(x);
            dueLog(x, 0, 8, 8);
            due("nothing is written", x.writes(), 8);
            x.start();
            for (int p = 0; p < 7; p++) {
                x.fix(p);
                x.unfix(p + 1);
            }
            due("the hand is 0", x.fix(60), 0);
        });
        holds(promise, "false when it was off", () -> {
            PagePool x = new PagePool();
            due("a new object", x.cut(), true);
            due("off", x.cut(), false);
            due("off still", x.cut(), false);
            x.start();
            due("on again", x.cut(), true);
            x.start();
            changeOnce(x, 0, 1, 1);
            x.cutAfter(0);
            x.force();
            due("it has failed in a call", x.cut(), false);
        });
    }

    private static void start() {
        String promise = "Promise 19";
        holds(promise, "Power comes again, and all is started", () -> {
            PagePool x = off();
            due("a start of nothing", x.start(), 0);
            due("isOn", x.isOn(), true);
            dueEmptyFrames(x);
            due("fix", x.fix(0), 0);
        });
        holds(promise, "how many changes were done again (those whose page did not have them)",
                PromiseEdgesTest::thoseWhosePageDidNotHaveThem);
        holds(promise, "NONE when power failed in it", () -> {
            PagePool x = new PagePool();
            changeOnce(x, 0, 1, 1);
            x.cutAfter(7);
            x.force();
            x.cutAfter(0);
            due("start", x.start(), NONE);
            due("isOn", x.isOn(), false);
            dueLog(x, 0, 7, 7);
            due("start again", x.start(), 0);
            due("isOn", x.isOn(), true);
        });
        holds(promise, "IllegalStateException when power is on.", () -> {
            PagePool x = new PagePool();
            dueThrow("a new object", x::start, STATE);
            x.cut();
            x.start();
            dueThrow("started", x::start, STATE);
            x.cutAfter(0);
            dueThrow("said to fail, but on", x::start, STATE);
        });
    }

    private static void thoseWhosePageDidNotHaveThem() {
        PagePool x = new PagePool();
        changeOnce(x, 0, 1, 1);
        changeOnce(x, 1, 1, 1);
        changeOnce(x, 0, 1, 2);
        x.force();
        x.cut();
        due("none is written: all", x.start(), 3);
        x.flush(0);
        x.cut();
        due("page 0 is written: one", x.start(), 1);
        x.flush(1);
        x.cut();
        due("both are written: none", x.start(), 0);
        changeOnce(x, 1, 1, 3);
        x.cut();
        due("what was not forced is none", x.start(), 0);
        due("page 1", wordOf(x, 1, 1), 1);
        due("page 0", wordOf(x, 0, 1), 2);
    }

    private static void isOn() {
        String promise = "Promise 20";
        holds(promise, "Whether power is on.", () -> {
            PagePool x = new PagePool();
            due("at first", x.isOn(), true);
            changeOnce(x, 0, 1, 1);
            x.cutAfter(3);
            due("said to fail", x.isOn(), true);
            x.force();
            due("failed in a call", x.isOn(), false);
            x.cutAfter(0);
            x.start();
            due("failed in start", x.isOn(), false);
            x.start();
            due("started", x.isOn(), true);
            x.cut();
            due("cut", x.isOn(), false);
        });
    }
}
