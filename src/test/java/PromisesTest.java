/** One part for each promise: ordinary inputs, the edges that the document names, wrong inputs. */
public final class PromisesTest extends Checks {
    private static void newObject() {
        about("promise 1");
        PagePool x = new PagePool();
        for (int p = 0; p < 256; p++) {
            for (int i = 0; i < 64; i++) {
                due("onMedium", x.onMedium(p, i), 0);
            }
        }
        for (int f = 0; f < 8; f++) {
            dueFrame(x, f, -1, 0, 0, 0, -1);
        }
        due("isOn", x.isOn(), true);
        due("writes", x.writes(), 0);
        due("torn", x.torn(), 0);
        due("changed", x.changed(), 0);
        dueLog(x, 0, 0, 0);
        due("NONE", PagePool.NONE, -1);
        PagePool y = new PagePool();
        x.change(x.fix(0), 1, 1);
        x.flush(0);
        due("another object's page", y.onMedium(0, 1), 0);
        dueFrame(y, 0, -1, 0, 0, 0, -1);
    }

    private static void fix() {
        about("promise 2");
        PagePool x = new PagePool();
        due("fix(255)", x.fix(255), 0);
        due("fix(0)", x.fix(0), 1);
        due("fix(255) again", x.fix(255), 0);
        dueFrame(x, 0, 255, 2, 1, 0, -1);
        dueFrame(x, 1, 0, 1, 1, 0, -1);
        for (int bad : NO_PAGE) {
            dueThrow("fix(" + bad + ")", () -> x.fix(bad), INDEX);
        }
        dueThrow("fix(0), off", () -> off().fix(0), STATE);
        dueThrow("fix(-1), off", () -> off().fix(-1), STATE);
        fixTakesTheEmptyFirst();
        fixGoesRound();
        fixWithAllPinned();
        fixWritesWhatItSteals();
    }

    private static void fixTakesTheEmptyFirst() {
        PagePool x = new PagePool();
        x.fix(9);
        x.unfix(0);
        due("an empty frame, though frame 0 is free", x.fix(10), 1);
        dueFrame(x, 0, 9, 0, 1, 0, -1);
    }

    private static void fixGoesRound() {
        PagePool x = full();
        x.unfix(3);
        x.unfix(5);
        due("the hand stops at 3 in its second round", x.fix(100), 3);
        due("5 is used no more", x.frame(5, 2), 0);
        due("pinned frames stay used", x.frame(4, 2), 1);
        x.unfix(3);
        due("5 comes before 3", x.fix(101), 5);
        x.unfix(5);
        due("page 7 stays where it is", x.fix(7), 7);
        due("the hand stands at 6: 3 and 5 are used, 3 comes first", x.fix(102), 3);
        x.fix(101);
        x.unfix(5);
        x.unfix(3);
        due("to be fixed makes used: 5 is passed once", x.fix(103), 5);
        due("3 is used no more", x.frame(3, 2), 0);
    }

    private static void fixWithAllPinned() {
        PagePool x = full();
        x.unfix(0);
        due("fix(50)", x.fix(50), 0);
        due("fix(51), all pinned", x.fix(51), -1);
        for (int f = 0; f < 8; f++) {
            dueFrame(x, f, f == 0 ? 50 : f, 1, 1, 0, -1);
        }
        x.unfix(1);
        x.unfix(0);
        due("the hand is where it was, at 1", x.fix(51), 1);
        due("a page that is in a frame, all others pinned", x.fix(7), 7);
    }

    private static void fixWritesWhatItSteals() {
        PagePool x = full();
        x.change(2, 40, 77);
        x.change(0, 1, 78);
        x.unfix(2);
        due("fix(30)", x.fix(30), 2);
        due("the stolen page is written", x.onMedium(2, 40), 77);
        due("its log alone, and the page", x.writes(), 8 + 5);
        dueLog(x, 0, 8, 16);
        dueFrame(x, 2, 30, 1, 1, 0, -1);
        due("the new page's word", x.word(2, 40), 0);
        x.unfix(2);
        due("read again", x.fix(2), 2);
        due("its word", x.word(2, 40), 77);
        due("nothing written for a page that is not changed", x.writes(), 13);
        x.change(2, 1, 1);
        x.unfix(2);
        x.cutAfter(20);
        due("power fails in fix, before the last half", x.fix(60), -1);
        due("isOn", x.isOn(), false);
        due("torn", x.torn(), 1);
    }

    private static void unfix() {
        about("promise 3");
        PagePool x = new PagePool();
        x.fix(4);
        x.fix(4);
        due("unfix", x.unfix(0), 1);
        due("unfix", x.unfix(0), 0);
        dueFrame(x, 0, 4, 0, 1, 0, -1);
        dueThrow("unfix without pins", () -> x.unfix(0), STATE);
        due("pins", x.frame(0, 1), 0);
        dueThrow("unfix of an empty frame", () -> x.unfix(7), STATE);
        for (int bad : NO_FRAME) {
            dueThrow("unfix(" + bad + ")", () -> x.unfix(bad), INDEX);
        }
        dueThrow("unfix(8), off", () -> off().unfix(8), STATE);
        x.fix(4);
        x.cut();
        dueThrow("unfix(0), off", () -> x.unfix(0), STATE);
    }

    private static void change() {
        about("promise 4");
        PagePool x = new PagePool();
        x.fix(4);
        due("change", x.change(0, 1, Integer.MIN_VALUE), 0);
        due("change", x.change(0, 63, 7), 8);
        due("change to what it is", x.change(0, 63, 7), 16);
        due("word(0, 1)", x.word(0, 1), Integer.MIN_VALUE);
        due("word(0, 63)", x.word(0, 63), 7);
        due("mark", x.word(0, 0), 17);
        dueFrame(x, 0, 4, 1, 1, 1, 0);
        dueLog(x, 0, 0, 24);
        due("no writes", x.writes(), 0);
        x.flush(4);
        due("change", x.change(0, 2, 0), 24);
        due("its first, since it was written", x.frame(0, 4), 24);
        wrongChanges(x);
        dueLog(x, 0, 24, 32);
        due("mark", x.word(0, 0), 25);
        logWithoutRoom();
    }

    private static void wrongChanges(PagePool x) {
        dueThrow("change(0, 0, 1)", () -> x.change(0, 0, 1), INDEX);
        for (int bad : NO_WORD) {
            dueThrow("change(0, " + bad + ", 1)", () -> x.change(0, bad, 1), INDEX);
        }
        for (int bad : NO_FRAME) {
            dueThrow("change(" + bad + ", 1, 1)", () -> x.change(bad, 1, 1), INDEX);
        }
        dueThrow("change(1, 1, 1), empty", () -> x.change(1, 1, 1), STATE);
        dueThrow("change(1, 0, 1), empty", () -> x.change(1, 0, 1), STATE);
        x.fix(5);
        x.unfix(1);
        dueThrow("change(1, 64, 1), not pinned", () -> x.change(1, 64, 1), STATE);
        dueThrow("change(8, 0, 1), off", () -> off().change(8, 0, 1), STATE);
    }

    /** Beyond 512 calls; nothing is promised there, but that no call fails by itself. */
    private static void logWithoutRoom() {
        PagePool x = new PagePool();
        x.fix(0);
        for (int k = 0; k < 8192; k++) {
            due("change", x.change(0, 1 + k % 63, k), k * 8);
        }
        due("change without room", x.change(0, 1, 5), -1);
        due("nothing is done", x.word(0, 1), 8191 / 63 * 63);
        dueLog(x, 0, 0, 65536);
        x.flush(0);
        due("trim", x.trim(), 65528);
        due("change", x.change(0, 1, 5), 65536);
        x.force();
        x.cut();
        due("start", x.start(), 1);
        due("word", wordOf(x, 0, 1), 5);
    }

    private static void word() {
        about("promise 5");
        PagePool x = new PagePool();
        x.fix(6);
        x.change(0, 5, 50);
        x.unfix(0);
        due("word without pins", x.word(0, 5), 50);
        due("mark", x.word(0, 0), 1);
        due("last word", x.word(0, 63), 0);
        for (int bad : NO_WORD) {
            dueThrow("word(0, " + bad + ")", () -> x.word(0, bad), INDEX);
        }
        for (int bad : NO_FRAME) {
            dueThrow("word(" + bad + ", 0)", () -> x.word(bad, 0), INDEX);
        }
        dueThrow("word(1, 0), empty", () -> x.word(1, 0), STATE);
        dueThrow("word(1, 64), empty", () -> x.word(1, 64), STATE);
        x.cut();
        dueThrow("word(0, 0), off", () -> x.word(0, 0), STATE);
        dueThrow("word(8, 64), off", () -> x.word(8, 64), STATE);
    }

    private static void frame() {
        about("promise 6");
        PagePool x = new PagePool();
        x.fix(200);
        x.fix(201);
        dueFrame(x, 0, 200, 1, 1, 0, -1);
        x.change(1, 1, 1);
        x.change(0, 1, 1);
        x.change(1, 1, 2);
        dueFrame(x, 1, 201, 1, 1, 1, 0);
        dueFrame(x, 0, 200, 1, 1, 1, 8);
        dueFrame(x, 7, -1, 0, 0, 0, -1);
        x.flush(201);
        dueFrame(x, 1, 201, 1, 1, 0, -1);
        for (int bad : NO_FRAME) {
            dueThrow("frame(" + bad + ", 0)", () -> x.frame(bad, 0), INDEX);
        }
        dueThrow("frame(0, -1)", () -> x.frame(0, -1), INDEX);
        dueThrow("frame(0, 5)", () -> x.frame(0, 5), INDEX);
        x.cut();
        for (int f = 0; f < 8; f++) {
            dueFrame(x, f, -1, 0, 0, 0, -1);
        }
        dueThrow("frame(8, 0), off", () -> x.frame(8, 0), INDEX);
    }

    private static void flush() {
        about("promise 7");
        PagePool x = new PagePool();
        x.fix(3);
        x.fix(4);
        x.change(0, 31, 1);
        x.change(1, 32, 2);
        x.change(0, 32, 3);
        x.change(1, 33, 4);
        due("flush of a page in no frame", x.flush(5), 0);
        due("flush", x.flush(3), 1);
        due("to the end of its latest change, and the page", x.writes(), 24 + 5);
        dueLog(x, 0, 24, 32);
        dueFrame(x, 0, 3, 1, 1, 0, -1);
        due("onMedium(3, 31)", x.onMedium(3, 31), 1);
        due("onMedium(3, 32)", x.onMedium(3, 32), 3);
        due("onMedium(3, 0)", x.onMedium(3, 0), 17);
        due("flush again", x.flush(3), 0);
        due("flush", x.flush(4), 1);
        due("eight words more, and the page", x.writes(), 29 + 8 + 5);
        x.change(0, 1, 9);
        x.force();
        due("flush", x.flush(3), 1);
        due("no log is written twice", x.writes(), 42 + 8 + 5);
        for (int bad : NO_PAGE) {
            dueThrow("flush(" + bad + ")", () -> x.flush(bad), INDEX);
            dueThrow("flush(" + bad + "), off", () -> off().flush(bad), STATE);
        }
        for (int n = 0; n < 13; n++) {
            cutInFlush(n);
        }
    }

    /** A first page version (word 1 and 40 are 1) is on the medium; the next one's writing is cut after n writes. */
    private static void cutInFlush(int n) {
        PagePool x = new PagePool();
        x.fix(3);
        x.change(0, 1, 1);
        x.change(0, 40, 1);
        x.flush(3);
        x.change(0, 1, 2);
        x.force();
        x.change(0, 40, 2);
        int before = x.writes();
        x.cutAfter(n);
        due("flush, cut after " + n, x.flush(3), -1);
        due("writes, cut after " + n, x.writes() - before, n);
        due("isOn", x.isOn(), false);
        due("FORCED", x.log(1), 24 + Math.min(n, 8));
        due("END", x.log(2), 24 + Math.min(n, 8));
        due("torn, cut after " + n, x.torn(), n == 12 ? 1 : 0);
        due("onMedium(3, 1), cut after " + n, x.onMedium(3, 1), n == 12 ? 2 : 1);
        due("onMedium(3, 40), cut after " + n, x.onMedium(3, 40), 1);
        int again = n < 8 ? 1 : n < 12 ? 2 : 0;
        due("start, cut after " + n, x.start(), again);
        due("word 1", wordOf(x, 3, 1), 2);
        due("word 40, cut after " + n, wordOf(x, 3, 40), n < 8 ? 1 : 2);
    }

    private static void flushOldest() {
        about("promise 8");
        PagePool x = new PagePool();
        due("flushOldest of nothing", x.flushOldest(), -1);
        due("isOn", x.isOn(), true);
        for (int p = 10; p < 13; p++) {
            x.fix(p);
        }
        x.change(2, 1, 1);
        x.change(0, 1, 1);
        x.change(1, 1, 1);
        x.change(2, 1, 2);
        due("flushOldest", x.flushOldest(), 12);
        due("its log, with all before", x.log(1), 32);
        x.change(2, 1, 3);
        due("flushOldest", x.flushOldest(), 10);
        due("flushOldest", x.flushOldest(), 11);
        due("flushOldest", x.flushOldest(), 12);
        due("flushOldest of nothing", x.flushOldest(), -1);
        due("onMedium(12, 1)", x.onMedium(12, 1), 3);
        dueThrow("flushOldest, off", () -> off().flushOldest(), STATE);
        x.change(0, 1, 5);
        x.cutAfter(0);
        due("power fails", x.flushOldest(), -1);
        due("isOn", x.isOn(), false);
    }

    private static void force() {
        about("promise 9");
        PagePool x = new PagePool();
        due("force of nothing", x.force(), 0);
        x.fix(0);
        x.change(0, 1, 1);
        x.change(0, 1, 2);
        due("force", x.force(), 16);
        due("force again", x.force(), 0);
        due("writes", x.writes(), 16);
        dueLog(x, 0, 16, 16);
        due("no page is written", x.onMedium(0, 1), 0);
        x.change(0, 1, 3);
        x.cutAfter(8);
        due("force, power just lasts", x.force(), 8);
        x.change(0, 1, 4);
        due("force, power fails", x.force(), -1);
        dueLog(x, 0, 24, 24);
        dueThrow("force, off", x::force, STATE);
        x.start();
        x.fix(0);
        x.change(0, 1, 5);
        x.cutAfter(7);
        due("force, power fails at the last word", x.force(), -1);
        dueLog(x, 0, 31, 31);
    }

    private static void trim() {
        about("promise 10");
        PagePool x = new PagePool();
        due("trim of nothing", x.trim(), 0);
        x.fix(0);
        x.fix(1);
        x.change(0, 1, 1);
        due("trim, not forced", x.trim(), 0);
        x.force();
        due("trim, not written", x.trim(), 0);
        x.change(0, 1, 2);
        x.change(1, 1, 3);
        x.change(0, 1, 4);
        x.flush(0);
        due("trim to the least first", x.trim(), 16);
        dueLog(x, 16, 32, 32);
        due("trim again", x.trim(), 0);
        x.flush(1);
        due("trim to the last one", x.trim(), 8);
        due("trim again", x.trim(), 0);
        dueLog(x, 24, 32, 32);
        int before = x.writes();
        x.change(1, 1, 5);
        due("trim to a first that is not forced", x.trim(), 8);
        due("trim writes nothing", x.writes(), before);
        x.cut();
        dueLog(x, 32, 32, 32);
        dueThrow("trim, off", x::trim, STATE);
        due("start", x.start(), 0);
        due("trim of an empty log", x.trim(), 0);
        due("word", wordOf(x, 1, 1), 3);
        trimAndWhatWasFilledUp();
    }

    private static void trimAndWhatWasFilledUp() {
        PagePool x = new PagePool();
        changeOnce(x, 0, 1, 1);
        x.cutAfter(3);
        x.force();
        x.start();
        dueLog(x, 0, 8, 8);
        due("trim, all was filled up", x.trim(), 0);
        changeOnce(x, 0, 1, 2);
        changeOnce(x, 0, 1, 3);
        x.flush(0);
        changeOnce(x, 0, 1, 4);
        x.cutAfter(1);
        x.force();
        due("start", x.start(), 0);
        dueLog(x, 0, 32, 32);
        due("trim to the last one, before what was filled up", x.trim(), 16);
        dueLog(x, 16, 32, 32);
        due("serial behind what was filled up", changeOnce(x, 0, 1, 5), 32);
        due("trim over what was filled up", x.trim(), 16);
        dueLog(x, 32, 32, 40);
    }

    private static void changed() {
        about("promise 11");
        PagePool x = full();
        due("changed", x.changed(), 0);
        for (int f = 0; f < 8; f++) {
            x.change(f, 1, 0);
            x.change(f, 1, 0);
            due("changed", x.changed(), f + 1);
        }
        x.flush(4);
        due("changed", x.changed(), 7);
        x.force();
        due("changed, forced", x.changed(), 7);
        x.cut();
        due("changed, off", x.changed(), 0);
        x.start();
        due("changed, done again", x.changed(), 7);
    }

    private static void oldest() {
        about("promise 12");
        PagePool x = full();
        due("oldest(0) of none", x.oldest(0), -1);
        int[] order = {5, 2, 7, 0};
        for (int f : order) {
            x.change(f, 1, 1);
        }
        x.change(5, 1, 2);
        for (int k = 0; k < order.length; k++) {
            due("oldest(" + k + ")", x.oldest(k), order[k]);
        }
        due("oldest(4)", x.oldest(4), -1);
        due("oldest(-1)", x.oldest(-1), -1);
        due("oldest(MIN)", x.oldest(Integer.MIN_VALUE), -1);
        due("oldest(MAX)", x.oldest(Integer.MAX_VALUE), -1);
        x.flush(5);
        due("oldest(0)", x.oldest(0), 2);
        x.change(5, 1, 3);
        due("oldest(3)", x.oldest(3), 5);
        x.cut();
        due("oldest(0), off", x.oldest(0), -1);
    }

    private static void log() {
        about("promise 13");
        PagePool x = new PagePool();
        changeOnce(x, 0, 1, 1);
        changeOnce(x, 1, 1, 1);
        x.flush(0);
        changeOnce(x, 2, 1, 1);
        x.trim();
        dueLog(x, 8, 8, 24);
        dueThrow("log(-1)", () -> x.log(-1), INDEX);
        dueThrow("log(3)", () -> x.log(3), INDEX);
        x.cut();
        dueLog(x, 8, 8, 8);
        dueThrow("log(3), off", () -> x.log(3), INDEX);
    }

    private static void onMedium() {
        about("promise 14");
        PagePool x = new PagePool();
        changeOnce(x, 255, 63, -5);
        due("before it is written", x.onMedium(255, 63), 0);
        x.flush(255);
        due("onMedium(255, 63)", x.onMedium(255, 63), -5);
        due("onMedium(255, 0)", x.onMedium(255, 0), 1);
        due("onMedium(254, 63)", x.onMedium(254, 63), 0);
        x.cut();
        due("onMedium(255, 63), off", x.onMedium(255, 63), -5);
        for (int bad : NO_PAGE) {
            dueThrow("onMedium(" + bad + ", 0)", () -> x.onMedium(bad, 0), INDEX);
        }
        for (int bad : NO_WORD) {
            dueThrow("onMedium(0, " + bad + ")", () -> x.onMedium(0, bad), INDEX);
        }
    }

    private static void torn() {
        about("promise 15");
        PagePool x = new PagePool();
        changeOnce(x, 9, 31, 1);
        changeOnce(x, 9, 32, 2);
        x.cutAfter(16 + 4);
        due("flush", x.flush(9), -1);
        due("torn", x.torn(), 1);
        due("first half", x.onMedium(9, 31), 1);
        due("mark", x.onMedium(9, 0), 9);
        due("second half", x.onMedium(9, 32), 0);
        x.cutAfter(0);
        due("start, cut before the first half", x.start(), -1);
        due("torn still", x.torn(), 1);
        x.cutAfter(1);
        due("start, cut before the second half", x.start(), -1);
        due("torn still", x.torn(), 1);
        x.cutAfter(2);
        int before = x.writes();
        due("start", x.start(), 0);
        due("mended by two halves", x.writes() - before, 2);
        due("torn no more", x.torn(), 0);
        due("second half", x.onMedium(9, 32), 2);
        tornThoughAlike();
    }

    /** Only words of the first half differ, so the page is whole as it stands; it is torn all the same. */
    private static void tornThoughAlike() {
        PagePool x = new PagePool();
        changeOnce(x, 9, 1, 1);
        x.cutAfter(8 + 4);
        x.flush(9);
        due("torn", x.torn(), 1);
        int before = x.writes();
        x.start();
        due("mended by two halves", x.writes() - before, 2);
    }

    private static void writes() {
        about("promise 16");
        PagePool x = new PagePool();
        changeOnce(x, 0, 1, 1);
        due("nothing yet", x.writes(), 0);
        x.cutAfter(3);
        x.force();
        due("three words", x.writes(), 3);
        x.start();
        due("five words that lacked", x.writes(), 8);
        changeOnce(x, 0, 1, 1);
        x.force();
        due("a change's words", x.writes(), 16);
        x.flush(0);
        due("four halves and the number", x.writes(), 21);
        x.trim();
        x.cut();
        x.start();
        due("nothing more", x.writes(), 21);
    }

    private static void cutAfter() {
        about("promise 17");
        PagePool x = new PagePool();
        changeOnce(x, 0, 1, 1);
        x.cutAfter(0);
        due("trim writes nothing", x.trim(), 0);
        due("isOn", x.isOn(), true);
        x.cutAfter(PagePool.NONE);
        due("never", x.force(), 8);
        x.cutAfter(0);
        x.cutAfter(2);
        changeOnce(x, 0, 1, 2);
        due("in place of what was said", x.force(), -1);
        dueLog(x, 0, 10, 10);
        due("said no more: start", x.start(), 1);
        due("said no more: flush", x.flush(0), 1);
        dueThrow("cutAfter(-2)", () -> {
            x.cutAfter(-2);
            return 0;
        }, ARGUMENT);
        x.cutAfter(Integer.MAX_VALUE);
        changeOnce(x, 0, 1, 3);
        x.cutAfter(1);
        dueThrow("cutAfter(MIN)", () -> {
            x.cutAfter(Integer.MIN_VALUE);
            return 0;
        }, ARGUMENT);
        due("a call that throws leaves what was said", x.force(), -1);
        cutAfterWhileOff();
    }

    private static void cutAfterWhileOff() {
        PagePool x = new PagePool();
        changeOnce(x, 0, 1, 1);
        x.force();
        x.cut();
        x.cutAfter(2);
        due("cut of what is off", x.cut(), false);
        due("start needs no write", x.start(), 1);
        due("what was said while off holds still", x.flush(0), -1);
        due("off", x.isOn(), false);
        x.start();
        x.cutAfter(0);
        x.cut();
        x.start();
        due("when power has failed, nothing more is said of failing", x.flush(0), 1);
    }

    private static void cut() {
        about("promise 18");
        PagePool x = full();
        x.unfix(0);
        x.fix(20);
        x.change(0, 1, 1);
        x.force();
        x.change(0, 1, 2);
        due("cut", x.cut(), true);
        due("isOn", x.isOn(), false);
        for (int f = 0; f < 8; f++) {
            dueFrame(x, f, -1, 0, 0, 0, -1);
        }
        dueLog(x, 0, 8, 8);
        due("cut again", x.cut(), false);
        due("start", x.start(), 1);
        due("word", wordOf(x, 20, 1), 1);
        for (int p = 0; p < 7; p++) {
            x.fix(p);
        }
        for (int f = 0; f < 8; f++) {
            if (x.frame(f, 1) > 0) {
                x.unfix(f);
            }
        }
        due("the hand is 0 again", x.fix(100), 0);
    }

    private static void start() {
        about("promise 19");
        dueThrow("start, on", () -> new PagePool().start(), STATE);
        PagePool x = new PagePool();
        x.cut();
        due("start of nothing", x.start(), 0);
        due("isOn", x.isOn(), true);
        dueThrow("start again", x::start, STATE);
        startDoesAgain();
        startFillsUp();
        startFindsFrames();
        startSteals();
        startPassesOverWhatItFilledUp();
    }

    private static void startDoesAgain() {
        PagePool x = new PagePool();
        changeOnce(x, 5, 1, 1);
        changeOnce(x, 6, 1, 2);
        x.flush(5);
        changeOnce(x, 5, 2, 3);
        changeOnce(x, 6, 1, 4);
        x.force();
        changeOnce(x, 6, 2, 9);
        x.cut();
        due("start", x.start(), 3);
        dueFrame(x, 0, 5, 0, 1, 1, 16);
        dueFrame(x, 1, 6, 0, 1, 1, 8);
        due("page 5", x.word(0, 1), 1);
        due("page 5", x.word(0, 2), 3);
        due("page 5's mark", x.word(0, 0), 17);
        due("page 6", x.word(1, 1), 4);
        due("page 6: not forced", x.word(1, 2), 0);
        due("page 6's mark", x.word(1, 0), 25);
        dueLog(x, 0, 32, 32);
        x.flush(6);
        x.flush(5);
        x.cut();
        due("nothing to do again", x.start(), 0);
        dueFrame(x, 1, 6, 0, 1, 0, -1);
    }

    private static void startFillsUp() {
        for (int words = 1; words < 8; words++) {
            PagePool x = new PagePool();
            changeOnce(x, 5, 1, 1);
            x.force();
            changeOnce(x, 5, 1, 2);
            x.cutAfter(words);
            x.force();
            dueLog(x, 0, 8 + words, 8 + words);
            x.cutAfter(8 - words - 1);
            due("start, cut before the last word", x.start(), -1);
            dueLog(x, 0, 15, 15);
            due("isOn", x.isOn(), false);
            due("start", x.start(), 1);
            dueLog(x, 0, 16, 16);
            due("what was filled up is none", wordOf(x, 5, 1), 1);
            due("mark", wordOf(x, 5, 0), 1);
            due("writes", x.writes(), 16);
            due("the next serial", changeOnce(x, 5, 1, 3), 16);
        }
    }

    private static void startFindsFrames() {
        PagePool x = new PagePool();
        for (int p = 0; p < 9; p++) {
            changeOnce(x, p, 1, p + 1);
        }
        x.force();
        due("page 0 was stolen", x.onMedium(0, 1), 1);
        x.flush(1);
        x.cut();
        int before = x.writes();
        x.cutAfter(0);
        due("start: 2 .. 8, none stolen that is changed", x.start(), 7);
        due("writes", x.writes() - before, 0);
        dueFrame(x, 0, 8, 0, 1, 1, 64);
        dueFrame(x, 1, 1, 0, 0, 0, -1);
        dueFrame(x, 2, 2, 0, 0, 1, 16);
    }

    /**
     * The log has changes of the pages 1 .. 7, 0 and 8, and 0 alone is written: at start all frames
     * are taken when 8 comes, and the frame of page 1 is stolen, which is changed.
     */
    private static PagePool cutWithNinePagesInTheLog() {
        PagePool x = new PagePool();
        for (int p = 1; p < 8; p++) {
            x.change(x.fix(p), 40, p);
        }
        changeOnce(x, 0, 40, 100);
        x.flush(0);
        changeOnce(x, 8, 40, 8);
        x.force();
        x.cut();
        return x;
    }

    private static void startSteals() {
        PagePool x = cutWithNinePagesInTheLog();
        int before = x.writes();
        due("start", x.start(), 8);
        due("a page is written", x.writes() - before, 5);
        due("it is page 1", x.onMedium(1, 40), 1);
        dueFrame(x, 0, 8, 0, 1, 1, 64);
        dueFrame(x, 1, 2, 0, 0, 1, 8);
        due("changed", x.changed(), 7);
        for (int n = 0; n < 5; n++) {
            PagePool y = cutWithNinePagesInTheLog();
            y.cutAfter(n);
            due("start, cut after " + n, y.start(), -1);
            due("isOn, cut after " + n, y.isOn(), false);
            due("torn, cut after " + n, y.torn(), n == 4 ? 1 : 0);
            dueFrame(y, 0, -1, 0, 0, 0, -1);
            due("start again, cut after " + n, y.start(), n == 4 ? 7 : 8);
            due("torn", y.torn(), 0);
            for (int p = 1; p < 9; p++) {
                due("page " + p, wordOf(y, p, 40), p);
            }
        }
    }

    /** What was filled up stays none at each later start, and ends to be so for a new change there. */
    private static void startPassesOverWhatItFilledUp() {
        PagePool x = new PagePool();
        changeOnce(x, 2, 1, 3);
        x.cutAfter(7);
        x.force();
        due("start fills up", x.start(), 0);
        due("page 2", wordOf(x, 2, 1), 0);
        x.cut();
        due("start again", x.start(), 0);
        due("page 2", wordOf(x, 2, 1), 0);
        due("the next serial", changeOnce(x, 2, 1, 4), 8);
        x.cut();
        due("start, the change was not forced", x.start(), 0);
        due("the same serial", changeOnce(x, 3, 2, 5), 8);
        x.force();
        x.cut();
        due("start", x.start(), 1);
        due("page 2", wordOf(x, 2, 1), 0);
        due("page 3", wordOf(x, 3, 2), 5);
    }

    private static void isOn() {
        about("promise 20");
        PagePool x = new PagePool();
        due("at first", x.isOn(), true);
        x.cut();
        due("cut", x.isOn(), false);
        x.start();
        due("started", x.isOn(), true);
        changeOnce(x, 0, 1, 1);
        x.cutAfter(1);
        due("said to fail", x.isOn(), true);
        x.force();
        due("failed", x.isOn(), false);
        x.cutAfter(0);
        x.start();
        due("failed in start", x.isOn(), false);
    }

    public static void main(String[] args) {
        newObject();
        fix();
        unfix();
        change();
        word();
        frame();
        flush();
        flushOldest();
        force();
        trim();
        changed();
        oldest();
        log();
        onMedium();
        torn();
        writes();
        cutAfter();
        cut();
        start();
        isOn();
        end();
    }
}
