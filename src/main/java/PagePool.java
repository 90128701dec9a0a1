/**
 * A pool of 8 frames over 256 pages on a medium whose power can fail at any least write.
 * The numbered promises are in DOC.md.
 */
public final class PagePool {
    public static final int NONE = -1;

    private static final int PAGES = 256;
    private static final int WORDS = 64;
    private static final int HALF = WORDS / 2;
    private static final int FRAMES = 8;
    private static final int MARK = 0;

    private final Power power;
    private final Medium medium;
    private final ChangeLog changes;
    private final Frame[] frames;
    private int hand;

    public PagePool() {
        Power one = new Power();
        power = one;
        medium = new Medium(one);
        changes = new ChangeLog(one);
        frames = new Frame[FRAMES];
        for (int f = 0; f < FRAMES; f++) {
            frames[f] = new Frame();
        }
        hand = 0;
    }

    public int fix(int page) throws IllegalStateException, IndexOutOfBoundsException {
        requirePower();
        requirePage(page);
        return pin(page);
    }

    public int unfix(int frame) throws IllegalStateException, IndexOutOfBoundsException {
        requirePower();
        requireFrame(frame);
        requirePins(frame);
        frames[frame].pins--;
        return frames[frame].pins;
    }

    public int change(int frame, int i, int v) throws IllegalStateException, IndexOutOfBoundsException {
        requirePower();
        requireFrame(frame);
        // The pins come before the word: of the two exceptions IllegalStateException goes first.
        requirePins(frame);
        if (i == MARK) {
            throw new IndexOutOfBoundsException("the mark can't be changed");
        }
        requireWord(i);
        if (!changes.hasRoom()) {
            return NONE;
        }
        int serial = changes.append(frames[frame].page, i, v);
        frames[frame].apply(serial, i, v);
        return serial;
    }

    public int word(int frame, int i) throws IllegalStateException, IndexOutOfBoundsException {
        requirePower();
        requireFrame(frame);
        if (frames[frame].page == NONE) {
            throw new IllegalStateException("the frame is empty");
        }
        requireWord(i);
        return frames[frame].words[i];
    }

    public int frame(int frame, int what) throws IndexOutOfBoundsException {
        requireFrame(frame);
        Frame asked = frames[frame];
        switch (what) {
            case 0:
                return asked.page;
            case 1:
                return asked.pins;
            case 2:
                return asked.used ? 1 : 0;
            case 3:
                return asked.isChanged() ? 1 : 0;
            case 4:
                return asked.first;
            default:
                throw new IndexOutOfBoundsException("a frame has no such thing");
        }
    }

    public int flush(int page) throws IllegalStateException, IndexOutOfBoundsException {
        requirePower();
        requirePage(page);
        int f = frameWith(page);
        if (f == NONE || !frames[f].isChanged()) {
            return 0;
        }
        return writeFrame(frames[f]) ? 1 : NONE;
    }

    public int flushOldest() throws IllegalStateException {
        requirePower();
        int f = oldest(0);
        if (f == NONE) {
            return NONE;
        }
        int page = frames[f].page;
        return writeFrame(frames[f]) ? page : NONE;
    }

    public int force() throws IllegalStateException {
        requirePower();
        int before = changes.forced;
        if (!changes.forceTo(changes.end)) {
            loseMemory();
            return NONE;
        }
        return changes.forced - before;
    }

    public int trim() throws IllegalStateException {
        requirePower();
        int f = oldest(0);
        int keep = f == NONE ? changes.lastOrBegin() : frames[f].first;
        return changes.giveBackBefore(keep);
    }

    public int changed() {
        int count = 0;
        for (int f = 0; f < FRAMES; f++) {
            if (frames[f].isChanged()) {
                count++;
            }
        }
        return count;
    }

    public int oldest(int k) {
        for (int f = 0; f < FRAMES; f++) {
            if (frames[f].isChanged() && olderThan(frames[f].first) == k) {
                return f;
            }
        }
        return NONE;
    }

    public int log(int which) throws IndexOutOfBoundsException {
        switch (which) {
            case 0:
                return changes.begin;
            case 1:
                return changes.forced;
            case 2:
                return changes.end;
            default:
                throw new IndexOutOfBoundsException("the log has no such place");
        }
    }

    public int onMedium(int page, int i) throws IndexOutOfBoundsException {
        requirePage(page);
        requireWord(i);
        return medium.own[page * WORDS + i];
    }

    public int torn() {
        return medium.halfWritten ? 1 : 0;
    }

    public int writes() {
        return power.made;
    }

    public void cutAfter(int n) throws IllegalArgumentException {
        if (n < NONE) {
            throw new IllegalArgumentException("fewer than no writes");
        }
        power.left = n;
    }

    public boolean cut() {
        if (!power.on) {
            return false;
        }
        power.fail();
        loseMemory();
        return true;
    }

    public int start() throws IllegalStateException {
        if (power.on) {
            throw new IllegalStateException("power is on");
        }
        power.on = true;
        if (!changes.fillUp() || !medium.mend()) {
            loseMemory();
            return NONE;
        }
        int count = changes.count();
        int done = 0;
        for (int k = 0; k < count; k++) {
            int again = doAgain(changes.begin + k * ChangeLog.LENGTH);
            if (again == NONE) {
                return NONE;
            }
            done += again;
        }
        return done;
    }

    public boolean isOn() {
        return power.on;
    }

    private void requirePower() {
        if (!power.on) {
            throw new IllegalStateException("power is off");
        }
    }

    private void requirePins(int frame) {
        if (frames[frame].pins == 0) {
            throw new IllegalStateException("the frame has no pins");
        }
    }

    private static void requirePage(int page) {
        if (page < 0 || page >= PAGES) {
            throw new IndexOutOfBoundsException("no such page");
        }
    }

    private static void requireFrame(int frame) {
        if (frame < 0 || frame >= FRAMES) {
            throw new IndexOutOfBoundsException("no such frame");
        }
    }

    private static void requireWord(int i) {
        if (i < 0 || i >= WORDS) {
            throw new IndexOutOfBoundsException("no such word");
        }
    }

    /** NONE as the page asks for an empty frame. */
    private int frameWith(int page) {
        for (int f = 0; f < FRAMES; f++) {
            if (frames[f].page == page) {
                return f;
            }
        }
        return NONE;
    }

    private int olderThan(int first) {
        int count = 0;
        for (int f = 0; f < FRAMES; f++) {
            if (frames[f].isChanged() && frames[f].first < first) {
                count++;
            }
        }
        return count;
    }

    private int pin(int page) {
        int f = frameWith(page);
        if (f == NONE) {
            f = takeFrame(page);
        }
        if (f == NONE) {
            return NONE;
        }
        frames[f].pins++;
        frames[f].used = true;
        return f;
    }

    private int takeFrame(int page) {
        int f = frameWith(NONE);
        if (f == NONE) {
            f = goRound();
        }
        if (f == NONE) {
            return NONE;
        }
        if (frames[f].isChanged() && !writeFrame(frames[f])) {
            return NONE;
        }
        frames[f].page = page;
        medium.read(page, frames[f].words);
        return f;
    }

    private int goRound() {
        // Two rounds: the first may only take the used away. Whole rounds bring the hand
        // back to where it was when all frames are pinned.
        for (int step = 0; step < 2 * FRAMES; step++) {
            int f = hand;
            hand = (hand + 1) % FRAMES;
            if (frames[f].pins > 0) {
                continue;
            }
            if (!frames[f].used) {
                return f;
            }
            frames[f].used = false;
        }
        return NONE;
    }

    private boolean writeFrame(Frame frame) {
        // The log goes first, so that no page on the medium has a change that the log lacks.
        boolean written = changes.forceTo(frame.endOfLatest())
                && medium.writeSpare(frame.page, frame.words)
                && medium.writeOwn(frame.page, frame.words);
        if (!written) {
            loseMemory();
            return false;
        }
        frame.first = NONE;
        return true;
    }

    /** 1 when the change was done again, 0 when its page had it or it is none, NONE when power failed. */
    private int doAgain(int serial) {
        if (!changes.isChange(serial)) {
            return 0;
        }
        int f = pin(changes.pageOf(serial));
        if (f == NONE) {
            return NONE;
        }
        boolean lacks = frames[f].words[MARK] <= serial;
        if (lacks) {
            frames[f].apply(serial, changes.wordOf(serial), changes.valueOf(serial));
        }
        frames[f].pins--;
        return lacks ? 1 : 0;
    }

    private void loseMemory() {
        for (int f = 0; f < FRAMES; f++) {
            frames[f].empty();
        }
        hand = 0;
        changes.end = changes.forced;
    }

    /** Whether power is on, and how many least writes it still lasts for. */
    private static final class Power {
        boolean on;
        int left;
        int made;

        Power() {
            on = true;
            left = NONE;
            made = 0;
        }

        /** False when power failed in place of the write. */
        boolean leastWrite() {
            if (left == 0) {
                fail();
                return false;
            }
            if (left > 0) {
                left--;
            }
            made++;
            return true;
        }

        void fail() {
            on = false;
            left = NONE;
        }
    }

    /** What stays of the pages when power fails: their own places and the spare one. */
    private static final class Medium {
        final Power power;
        final int[] own;
        final int[] spare;
        int spareNumber;
        boolean halfWritten;

        Medium(Power power) {
            this.power = power;
            own = new int[PAGES * WORDS];
            spare = new int[WORDS];
            spareNumber = 0;
            halfWritten = false;
        }

        void read(int page, int[] into) {
            System.arraycopy(own, page * WORDS, into, 0, WORDS);
        }

        boolean writeSpare(int page, int[] from) {
            for (int at = 0; at < WORDS; at += HALF) {
                if (!power.leastWrite()) {
                    return false;
                }
                System.arraycopy(from, at, spare, at, HALF);
            }
            if (!power.leastWrite()) {
                return false;
            }
            spareNumber = page;
            return true;
        }

        boolean writeOwn(int page, int[] from) {
            for (int at = 0; at < WORDS; at += HALF) {
                if (!power.leastWrite()) {
                    return false;
                }
                System.arraycopy(from, at, own, page * WORDS + at, HALF);
                halfWritten = at == 0;
            }
            return true;
        }

        /** A page is half written only behind the spare place, so that has the torn page and its number. */
        boolean mend() {
            return !halfWritten || writeOwn(spareNumber, spare);
        }
    }

    /** The log; of the 8 words that a change takes, what it says is kept in one slot. */
    private static final class ChangeLog {
        static final int LENGTH = 8;
        static final int ROOM = 65536;
        static final int SLOTS = ROOM / LENGTH;

        final Power power;
        /** Page and word in one number; NONE for what was filled up. */
        final int[] targets;
        final int[] values;
        int begin;
        int forced;
        int end;

        ChangeLog(Power power) {
            this.power = power;
            targets = new int[SLOTS];
            values = new int[SLOTS];
            begin = 0;
            forced = 0;
            end = 0;
        }

        boolean hasRoom() {
            return end - begin <= ROOM - LENGTH;
        }

        int append(int page, int i, int v) {
            int serial = end;
            targets[slotOf(serial)] = page * WORDS + i;
            values[slotOf(serial)] = v;
            end = serial + LENGTH;
            return serial;
        }

        boolean forceTo(int place) {
            for (int lacking = place - forced; lacking > 0; lacking--) {
                if (!power.leastWrite()) {
                    return false;
                }
                forced++;
            }
            return true;
        }

        /** The slot says none before the first word is filled up: filling can be cut, too. */
        boolean fillUp() {
            int begun = forced % LENGTH;
            if (begun == 0) {
                return true;
            }
            targets[slotOf(forced)] = NONE;
            end = forced - begun + LENGTH;
            return forceTo(end);
        }

        int count() {
            return (end - begin) / LENGTH;
        }

        boolean isChange(int serial) {
            return targets[slotOf(serial)] != NONE;
        }

        int pageOf(int serial) {
            return targets[slotOf(serial)] / WORDS;
        }

        int wordOf(int serial) {
            return targets[slotOf(serial)] % WORDS;
        }

        int valueOf(int serial) {
            return values[slotOf(serial)];
        }

        int lastOrBegin() {
            for (int k = count() - 1; k >= 0; k--) {
                int serial = begin + k * LENGTH;
                if (isChange(serial)) {
                    return serial;
                }
            }
            return begin;
        }

        int giveBackBefore(int keep) {
            int whole = forced - forced % LENGTH;
            int given = Math.max(0, Math.min(keep, whole) - begin);
            begin += given;
            return given;
        }

        /** Serials grow for ever, slots are used again: the room keeps two changes out of one slot. */
        private static int slotOf(int serial) {
            return (serial / LENGTH) & (SLOTS - 1);
        }
    }

    /** A place in memory for one page. */
    private static final class Frame {
        final int[] words;
        int page;
        int pins;
        boolean used;
        int first;

        Frame() {
            words = new int[WORDS];
            page = NONE;
            pins = 0;
            used = false;
            first = NONE;
        }

        void empty() {
            page = NONE;
            pins = 0;
            used = false;
            first = NONE;
        }

        boolean isChanged() {
            return first != NONE;
        }

        void apply(int serial, int i, int v) {
            words[i] = v;
            words[MARK] = serial + 1;
            if (first == NONE) {
                first = serial;
            }
        }

        int endOfLatest() {
            return words[MARK] - 1 + ChangeLog.LENGTH;
        }
    }
}
