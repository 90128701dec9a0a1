/**
 * One run of calls, cut at each of its least writes, and each start behind that cut at each of its
 * own: what the log had whole at the first cut is in the pages in the end, and nothing else.
 */
public final class CutAnywhereTest extends Checks {
    private static final int PAGES = 11;
    private static final int CHANGES = 44;

    /** The n-th change: its page, word and value. Words of both halves are changed in each page. */
    private static int pageOf(int n) {
        return n * 7 % PAGES;
    }

    private static int wordOf(int n) {
        return n % 3 == 0 ? 31 : n % 3 == 1 ? 32 : 63;
    }

    private static int valueOf(int n) {
        return 1000 + n;
    }

    /** Ends when power fails; frames are stolen, for there are more pages than frames. */
    private static void run(PagePool x) {
        for (int n = 0; n < CHANGES && x.isOn(); n++) {
            int f = x.fix(pageOf(n));
            if (f == NONE) {
                return;
            }
            x.change(f, wordOf(n), valueOf(n));
            x.unfix(f);
            if (n % 13 == 12) {
                x.flushOldest();
            }
            if (n % 17 == 16 && x.isOn()) {
                x.trim();
            }
        }
        if (x.isOn()) {
            x.force();
        }
    }

    /** The words that the pages have when all changes that are whole in the log are done. */
    private static int[][] wanted(int forced) {
        int[][] pages = new int[PAGES][64];
        for (int n = 0; n < CHANGES && 8 * n + 8 <= forced; n++) {
            pages[pageOf(n)][wordOf(n)] = valueOf(n);
            pages[pageOf(n)][0] = 8 * n + 1;
        }
        return pages;
    }

    private static PagePool cutRun(int n) {
        PagePool x = new PagePool();
        x.cutAfter(n);
        run(x);
        x.cut();
        return x;
    }

    private static void duePages(PagePool x, int[][] wanted) {
        for (int p = 0; p < PAGES; p++) {
            int f = x.fix(p);
            for (int i = 0; i < 64; i++) {
                due("page " + p + ", word " + i, x.word(f, i), wanted[p][i]);
            }
            x.unfix(f);
        }
        for (int k = 0; k < 8; k++) {
            x.flushOldest();
        }
        for (int p = 0; p < PAGES; p++) {
            for (int i = 0; i < 64; i++) {
                due("page " + p + ", word " + i + " on the medium", x.onMedium(p, i), wanted[p][i]);
            }
        }
    }

    private static void dueLogBeforePages(PagePool x) {
        for (int p = 0; p < PAGES; p++) {
            int mark = x.onMedium(p, 0);
            due("page " + p + " has its log", mark == 0 || mark + 7 <= x.log(1), true);
        }
    }

    /** How many least writes the start behind the cut makes. */
    private static int writesOfStart(int n) {
        PagePool x = cutRun(n);
        int before = x.writes();
        x.start();
        return x.writes() - before;
    }

    public static void main(String[] args) {
        PagePool whole = new PagePool();
        run(whole);
        int all = whole.writes();
        int starts = 0;
        for (int n = 0; n <= all; n++) {
            int writes = writesOfStart(n);
            for (int m = 0; m <= writes; m++) {
                about("cut after " + n + ", start cut after " + m);
                PagePool x = cutRun(n);
                due("writes", x.writes(), n);
                dueLogBeforePages(x);
                int[][] wanted = wanted(x.log(1));
                x.cutAfter(m);
                due("start fails", x.start() == NONE, m < writes);
                x.cutAfter(NONE);
                if (!x.isOn()) {
                    x.start();
                }
                due("torn", x.torn(), 0);
                duePages(x, wanted);
                starts += m < writes ? 1 : 0;
            }
        }
        about("the run");
        due("frames are stolen", all > 8 * CHANGES + 10 * PAGE_WRITES, true);
        due("starts fail at many places", starts > 500, true);
        end();
    }
}
