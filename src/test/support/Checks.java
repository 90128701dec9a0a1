/** What the tests share: answers that are due, and pools in states that are often needed. */
abstract class Checks {
    static final String STATE = "IllegalStateException";
    static final String INDEX = "IndexOutOfBoundsException";
    static final String ARGUMENT = "IllegalArgumentException";
    static final int NONE = -1;
    static final int[] NO_PAGE = {-1, 256, Integer.MIN_VALUE, Integer.MAX_VALUE};
    static final int[] NO_FRAME = {-1, 8, Integer.MIN_VALUE, Integer.MAX_VALUE};
    static final int[] NO_WORD = {-1, 64, Integer.MIN_VALUE, Integer.MAX_VALUE};
    /** The least writes of a page whose log is forced: two halves, the number, two halves. */
    static final int PAGE_WRITES = 5;

    private static String about = "";
    private static int parts = 0;
    private static int wrong = 0;

    interface Call {
        long run();
    }

    interface Part {
        void run();
    }

    interface Steps {
        void on(PagePool x);
    }

    private static void report(String what) {
        wrong++;
        System.out.println(about + ": " + what);
    }

    static void about(String what) {
        about = what;
    }

    /** One sentence of the document, and the part that fails when it is broken. */
    static void holds(String place, String sentence, Part part) {
        about(place + " (" + sentence + ")");
        parts++;
        try {
            part.run();
        } catch (RuntimeException e) {
            report("ended by " + e);
        }
    }

    static void due(String what, long got, long want) {
        if (got != want) {
            report(what + " answered " + got + ", due is " + want);
        }
    }

    static void due(String what, boolean got, boolean want) {
        due(what, got ? 1 : 0, want ? 1 : 0);
    }

    static void dueThrow(String what, Call call, String want) {
        String got;
        try {
            got = "answer " + call.run();
        } catch (RuntimeException e) {
            got = e.getClass().getSimpleName();
        }
        if (!got.equals(want)) {
            report(what + ": " + got + ", due is " + want);
        }
    }

    static void dueFrame(PagePool x, int frame, int page, int pins, int used, int changed, int first) {
        due("frame(" + frame + ", 0)", x.frame(frame, 0), page);
        due("frame(" + frame + ", 1)", x.frame(frame, 1), pins);
        due("frame(" + frame + ", 2)", x.frame(frame, 2), used);
        due("frame(" + frame + ", 3)", x.frame(frame, 3), changed);
        due("frame(" + frame + ", 4)", x.frame(frame, 4), first);
    }

    static void dueEmptyFrames(PagePool x) {
        for (int f = 0; f < 8; f++) {
            dueFrame(x, f, NONE, 0, 0, 0, NONE);
        }
    }

    static void dueLog(PagePool x, int begin, int forced, int end) {
        due("log(0)", x.log(0), begin);
        due("log(1)", x.log(1), forced);
        due("log(2)", x.log(2), end);
    }

    static PagePool off() {
        PagePool x = new PagePool();
        x.cut();
        return x;
    }

    /** A pool whose frames 0 .. 7 have the pages 0 .. 7, each fixed once. */
    static PagePool full() {
        PagePool x = new PagePool();
        for (int p = 0; p < 8; p++) {
            x.fix(p);
        }
        return x;
    }

    /** A pool whose frames 0 .. 7 have the pages 0 .. 7, used and not pinned. */
    static PagePool fullUnpinned() {
        PagePool x = full();
        for (int f = 0; f < 8; f++) {
            x.unfix(f);
        }
        return x;
    }

    /** A page is fixed, its word changed, and it is unfixed. */
    static int changeOnce(PagePool x, int page, int i, int v) {
        int f = x.fix(page);
        int serial = x.change(f, i, v);
        x.unfix(f);
        return serial;
    }

    static int wordOf(PagePool x, int page, int i) {
        int f = x.fix(page);
        int v = x.word(f, i);
        x.unfix(f);
        return v;
    }

    static void end() {
        String of = parts == 0 ? "" : " (" + parts + " sentences)";
        System.out.println((wrong == 0 ? "all answers are as due" : wrong + " answers are not as due") + of);
        if (wrong != 0) {
            System.exit(1);
        }
    }
}
