import java.util.ArrayList;
import java.util.List;
import java.util.Random;

/**
 * Mixed runs of 512 calls, each call compared with a second model that is written from the document
 * in another way: the log is kept word by word and read back from its words, a torn page is seen
 * by its halves' ages, and a power failure is an exception.
 */
public final class ModelTest {
    private static final int RUNS = 6000;
    private static final int CALLS = 512;
    private static final int STATE = 1_000_001;
    private static final int INDEX = 1_000_002;
    private static final int ARGUMENT = 1_000_003;

    private static final class PowerFailed extends RuntimeException {
        private static final long serialVersionUID = 1L;
    }

    private static final class Slot {
        int page;
        int pins;
        boolean used;
        int first = -1;
        final int[] words = new int[64];
    }

    /** What the document says, as plainly as can be. */
    private static final class Model {
        static final int WHOLE = 777;
        final int[][] medium = new int[256][64];
        final int[][] halfAge = new int[256][2];
        int[] spare = new int[64];
        int spareNumber = -1;
        int age = 0;
        final List<Integer> mediumLog = new ArrayList<>();
        final List<Integer> memoryLog = new ArrayList<>();
        int begin = 0;
        final Slot[] slots = new Slot[8];
        int hand = 0;
        boolean on = true;
        int said = -1;
        int made = 0;

        void least() {
            if (said == 0) {
                fail();
                throw new PowerFailed();
            }
            said = said < 0 ? said : said - 1;
            made++;
        }

        void fail() {
            on = false;
            said = -1;
            memoryLog.clear();
            java.util.Arrays.fill(slots, null);
            hand = 0;
        }

        int forced() {
            return mediumLog.size();
        }

        int end() {
            return mediumLog.size() + memoryLog.size();
        }

        void forceUpTo(int place) {
            while (forced() < place) {
                least();
                mediumLog.add(memoryLog.remove(0));
            }
        }

        void writeHalf(int page, int half, int[] from, int newAge) {
            least();
            System.arraycopy(from, half * 32, medium[page], half * 32, 32);
            halfAge[page][half] = newAge;
        }

        void write(Slot s) {
            forceUpTo(s.words[0] - 1 + 8);
            for (int half = 0; half < 2; half++) {
                least();
                System.arraycopy(s.words, half * 32, spare, half * 32, 32);
            }
            least();
            spareNumber = s.page;
            age++;
            writeHalf(s.page, 0, s.words, age);
            writeHalf(s.page, 1, s.words, age);
            s.first = -1;
        }

        int find(int page) {
            for (int f = 0; f < 8; f++) {
                if (slots[f] == null) {
                    return f;
                }
            }
            boolean allPinned = true;
            for (Slot s : slots) {
                allPinned &= s.pins > 0;
            }
            if (allPinned) {
                return -1;
            }
            while (true) {
                int f = hand;
                Slot s = slots[f];
                hand = hand == 7 ? 0 : hand + 1;
                if (s.pins == 0 && !s.used) {
                    if (s.first != -1) {
                        write(s);
                    }
                    return f;
                }
                if (s.pins == 0) {
                    s.used = false;
                }
            }
        }

        int fixPage(int page) {
            int at = -1;
            for (int f = 0; f < 8; f++) {
                at = slots[f] != null && slots[f].page == page ? f : at;
            }
            if (at == -1) {
                at = find(page);
                if (at == -1) {
                    return -1;
                }
                slots[at] = new Slot();
                slots[at].page = page;
                System.arraycopy(medium[page], 0, slots[at].words, 0, 64);
            }
            slots[at].pins++;
            slots[at].used = true;
            return at;
        }

        int changeWord(int f, int i, int v) {
            int serial = end();
            if (serial + 8 - begin > 65536) {
                return -1;
            }
            int[] words = {serial, slots[f].page, i, v, 0, 0, 0, WHOLE};
            for (int w : words) {
                memoryLog.add(w);
            }
            put(slots[f], serial, i, v);
            return serial;
        }

        void put(Slot s, int serial, int i, int v) {
            s.words[i] = v;
            s.words[0] = serial + 1;
            s.first = s.first == -1 ? serial : s.first;
        }

        Slot oldestSlot(int k) {
            List<Slot> sorted = new ArrayList<>();
            for (Slot s : slots) {
                if (s != null && s.first != -1) {
                    sorted.add(s);
                }
            }
            sorted.sort((a, b) -> Integer.compare(a.first, b.first));
            return k >= 0 && k < sorted.size() ? sorted.get(k) : null;
        }

        int logWord(int place) {
            return place < forced() ? mediumLog.get(place) : memoryLog.get(place - forced());
        }

        int trim() {
            int limit = begin;
            Slot s = oldestSlot(0);
            if (s != null) {
                limit = s.first;
            } else {
                for (int at = begin; at < end(); at += 8) {
                    limit = logWord(at + 7) == WHOLE ? at : limit;
                }
            }
            int given = 0;
            while (begin < limit && begin + 8 <= forced()) {
                begin += 8;
                given += 8;
            }
            return given;
        }

        int tornPage() {
            for (int p = 0; p < 256; p++) {
                if (halfAge[p][0] != halfAge[p][1]) {
                    return p;
                }
            }
            return -1;
        }

        int start() {
            on = true;
            while (forced() % 8 != 0) {
                least();
                mediumLog.add(0);
            }
            int torn = tornPage();
            if (torn != -1) {
                if (torn != spareNumber) {
                    throw new IllegalStateException("model: the spare place has another page");
                }
                age++;
                writeHalf(torn, 0, spare, halfAge[torn][0]);
                writeHalf(torn, 1, spare, halfAge[torn][0]);
            }
            int again = 0;
            for (int at = begin; at < forced(); at += 8) {
                if (mediumLog.get(at + 7) != WHOLE) {
                    continue;
                }
                Slot s = slots[fixPage(mediumLog.get(at + 1))];
                if (s.words[0] <= at) {
                    put(s, at, mediumLog.get(at + 2), mediumLog.get(at + 3));
                    again++;
                }
                s.pins--;
            }
            return again;
        }

        /** A call's answer or the exception's number. */
        int call(int which, int a, int b, int c) {
            try {
                return answer(which, a, b, c);
            } catch (PowerFailed e) {
                return -1;
            }
        }

        int answer(int which, int a, int b, int c) {
            boolean needsPower = which <= 7;
            if (needsPower && !on) {
                return STATE;
            }
            switch (which) {
                case 0:
                    return a < 0 || a > 255 ? INDEX : fixPage(a);
                case 1:
                    return noFrame(a) ? INDEX : pins(a) == 0 ? STATE : --slots[a].pins;
                case 2:
                    return noFrame(a) ? INDEX : pins(a) == 0 ? STATE
                            : b < 1 || b > 63 ? INDEX : changeWord(a, b, c);
                case 3:
                    return noFrame(a) ? INDEX : slots[a] == null ? STATE
                            : b < 0 || b > 63 ? INDEX : slots[a].words[b];
                case 4:
                    return a < 0 || a > 255 ? INDEX : flushPage(a);
                case 5:
                    return flushFirst();
                case 6:
                    int before = forced();
                    forceUpTo(end());
                    return forced() - before;
                case 7:
                    return trim();
                default:
                    return answerWithoutPower(which, a, b);
            }
        }

        int answerWithoutPower(int which, int a, int b) {
            switch (which) {
                case 8:
                    if (a >= -1) {
                        said = a;
                    }
                    return a < -1 ? ARGUMENT : 0;
                case 9:
                    boolean was = on;
                    if (on) {
                        fail();
                    }
                    return was ? 1 : 0;
                case 10:
                    return on ? STATE : start();
                case 11:
                    return noFrame(a) || b < 0 || b > 4 ? INDEX : frameTells(slots[a], b);
                case 12:
                    return a < 0 || a > 255 || b < 0 || b > 63 ? INDEX : medium[a][b];
                case 13:
                    return a == 0 ? begin : a == 1 ? forced() : a == 2 ? end() : INDEX;
                default:
                    return frameOf(oldestSlot(a));
            }
        }

        boolean noFrame(int f) {
            return f < 0 || f > 7;
        }

        int pins(int f) {
            return slots[f] == null ? 0 : slots[f].pins;
        }

        int frameOf(Slot wanted) {
            for (int f = 0; f < 8; f++) {
                if (wanted != null && slots[f] == wanted) {
                    return f;
                }
            }
            return -1;
        }

        int flushPage(int page) {
            for (Slot s : slots) {
                if (s != null && s.page == page && s.first != -1) {
                    write(s);
                    return 1;
                }
            }
            return 0;
        }

        int flushFirst() {
            Slot s = oldestSlot(0);
            if (s == null) {
                return -1;
            }
            write(s);
            return s.page;
        }

        int frameTells(Slot s, int what) {
            if (s == null) {
                return what == 0 || what == 4 ? -1 : 0;
            }
            int[] all = {s.page, s.pins, s.used ? 1 : 0, s.first == -1 ? 0 : 1, s.first};
            return all[what];
        }

        int changed() {
            int n = 0;
            for (Slot s : slots) {
                n += s != null && s.first != -1 ? 1 : 0;
            }
            return n;
        }
    }

    private static int call(PagePool x, int which, int a, int b, int c) {
        try {
            return answer(x, which, a, b, c);
        } catch (IllegalStateException e) {
            return e.getClass() == IllegalStateException.class ? STATE : -99;
        } catch (IndexOutOfBoundsException e) {
            return e.getClass() == IndexOutOfBoundsException.class ? INDEX : -99;
        } catch (IllegalArgumentException e) {
            return e.getClass() == IllegalArgumentException.class ? ARGUMENT : -99;
        }
    }

    private static int answer(PagePool x, int which, int a, int b, int c) {
        switch (which) {
            case 0:
                return x.fix(a);
            case 1:
                return x.unfix(a);
            case 2:
                return x.change(a, b, c);
            case 3:
                return x.word(a, b);
            case 4:
                return x.flush(a);
            case 5:
                return x.flushOldest();
            case 6:
                return x.force();
            case 7:
                return x.trim();
            case 8:
                x.cutAfter(a);
                return 0;
            case 9:
                return x.cut() ? 1 : 0;
            case 10:
                return x.start();
            case 11:
                return x.frame(a, b);
            case 12:
                return x.onMedium(a, b);
            case 13:
                return x.log(a);
            default:
                return x.oldest(a);
        }
    }

    private static String differs(PagePool x, Model m) {
        for (int f = 0; f < 8; f++) {
            for (int what = 0; what < 5; what++) {
                if (x.frame(f, what) != m.frameTells(m.slots[f], what)) {
                    return "frame(" + f + ", " + what + ")";
                }
            }
            for (int i = 0; m.slots[f] != null && i < 64; i++) {
                if (x.word(f, i) != m.slots[f].words[i]) {
                    return "word(" + f + ", " + i + ")";
                }
            }
        }
        for (int k = -1; k < 9; k++) {
            if (x.oldest(k) != m.frameOf(m.oldestSlot(k))) {
                return "oldest(" + k + ")";
            }
        }
        boolean logs = x.log(0) == m.begin && x.log(1) == m.forced() && x.log(2) == m.end();
        boolean rest = x.changed() == m.changed() && x.writes() == m.made && x.isOn() == m.on
                && x.torn() == (m.tornPage() == -1 ? 0 : 1);
        return !logs ? "log" : !rest ? "changed, writes, isOn or torn" : mediumDiffers(x, m);
    }

    private static String mediumDiffers(PagePool x, Model m) {
        for (int p = 0; p < 256; p++) {
            for (int i = 0; i < 64; i++) {
                if (x.onMedium(p, i) != m.medium[p][i]) {
                    return "onMedium(" + p + ", " + i + ")";
                }
            }
        }
        return null;
    }

    private static final int[] WEIRD = {-1, -2, Integer.MIN_VALUE, Integer.MAX_VALUE, 8, 64, 256, 5, 3};
    private static final int[] COMMON =
        {0, 0, 0, 0, 0, 1, 1, 1, 1, 2, 2, 2, 2, 2, 2, 3, 4, 5, 6, 7, 8, 9, 10, 10, 10, 10, 11, 12, 13, 14};
    private static final String[] NAMES = {"fix", "unfix", "change", "word", "flush", "flushOldest", "force",
        "trim", "cutAfter", "cut", "start", "frame", "onMedium", "log", "oldest"};

    private static int firstArgument(int which, Random r, int pages) {
        if (r.nextInt(25) == 0) {
            return WEIRD[r.nextInt(WEIRD.length)];
        }
        switch (which) {
            case 0: case 4: case 12:
                return r.nextInt(pages);
            case 8:
                return r.nextInt(4) == 0 ? r.nextInt(60) : r.nextInt(12) - 1;
            case 13:
                return r.nextInt(3);
            default:
                return r.nextInt(8);
        }
    }

    private static int secondArgument(int which, Random r) {
        if (r.nextInt(25) == 0) {
            return WEIRD[r.nextInt(WEIRD.length)];
        }
        return which == 11 ? r.nextInt(5) : r.nextInt(64);
    }

    private static int starts = 0;
    private static int tornSeen = 0;
    private static int failedStarts = 0;

    private static boolean runIsRight(int seed) {
        Random r = new Random(seed);
        PagePool x = new PagePool();
        Model m = new Model();
        int pages = new int[] {3, 9, 12, 20, 256}[seed % 5];
        int calm = seed % 3;
        for (int n = 0; n < CALLS; n++) {
            int which = COMMON[r.nextInt(COMMON.length)];
            if ((which == 8 || which == 9) && r.nextInt(3) < calm) {
                which = 2;
            }
            int a = firstArgument(which, r, pages);
            int b = secondArgument(which, r);
            int c = r.nextInt(7) - 3;
            int want = m.call(which, a, b, c);
            int got = call(x, which, a, b, c);
            starts += which == 10 && want >= 0 && want < STATE ? 1 : 0;
            failedStarts += which == 10 && want == -1 ? 1 : 0;
            tornSeen += which != 10 && want == -1 && x.torn() == 1 ? 1 : 0;
            // The medium is large; to look at all of it now and then is enough.
            String other = n % 16 == 15 || n > CALLS - 3 ? differs(x, m) : null;
            if (got != want || other != null) {
                System.out.println("run " + seed + ", call " + n + ": " + NAMES[which] + "(" + a + ", " + b + ", " + c
                        + ") answered " + got + ", due is " + want + (other == null ? "" : "; differs: " + other));
                return false;
            }
        }
        return true;
    }

    public static void main(String[] args) {
        int wrong = 0;
        for (int seed = 0; seed < RUNS && wrong < 10; seed++) {
            wrong += runIsRight(seed) ? 0 : 1;
        }
        // Runs that never come to these states would prove nothing about them.
        boolean reached = starts > 1000 && tornSeen > 100 && failedStarts > 100;
        System.out.println(wrong + " runs wrong; " + starts + " starts, " + failedStarts + " failed starts, "
                + tornSeen + " torn pages");
        if (wrong != 0 || !reached) {
            System.exit(1);
        }
    }
}
