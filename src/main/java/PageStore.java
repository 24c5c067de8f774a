import java.util.Arrays;

/**
 * Pages of bytes that last: see DOC.md for what each call promises.
 *
 * What is changed in a transaction stays in memory, in one layer since begin and one more for
 * each mark, so that going back is to drop layers and the file is still what it was at begin.
 * Only commit writes: first to the journal what the file holds, then over the file.
 */
public final class PageStore {
    public static final int PAGE = 256;
    public static final int MOST = 768;

    private static final int MOST_MARKS = 5;
    private static final int MOST_K = 1000;
    private static final int MOST_B = 300;

    /** What power is told as when: where it is to fail. */
    private static final int IN_JOURNAL = 0;
    private static final int IN_FILE = 1;
    private static final int AT_EMPTYING = 2;
    private static final int IN_REOPEN = 3;
    private static final int NOT_AT_ALL = 4;

    /** The journal: a number (how many pages there were), then records of a number and a page. */
    private static final int NUMBER = 4;
    private static final int RECORD = NUMBER + PAGE;

    private final LastingBytes file = new LastingBytes(MOST * PAGE);
    private final LastingBytes journal = new LastingBytes(NUMBER + MOST * RECORD);
    private final Layer[] layers = new Layer[MOST_MARKS + 1];
    private final Fuse fuse = new Fuse();
    /** Made once, since what every commit made anew would be counted. */
    private final byte[] record = new byte[RECORD];
    private boolean on = true;
    private boolean open = false;
    private int marks = 0;
    private int count = 0;
    private int lasting = 0;

    public PageStore() {
        for (int m = 0; m <= MOST_MARKS; m++) {
            layers[m] = new Layer();
        }
    }

    public int pages() throws IllegalStateException {
        requireOn();
        return count;
    }

    public int add() throws IllegalStateException {
        requireOpen();
        if (count >= MOST) {
            throw new IllegalStateException("there are as many pages as there may be");
        }
        // The block may have been used before, by a page that was taken back.
        Arrays.fill(layers[marks].hold(count), (byte) 0);
        count++;
        return count - 1;
    }

    public int get(int p, int at) throws IllegalStateException, IndexOutOfBoundsException {
        requireOn();
        requireByte(p, at);
        return bytesOf(p)[at] & 255;
    }

    public int put(int p, int at, int v) throws IllegalStateException, IndexOutOfBoundsException {
        requireOpen();
        requireByte(p, at);
        byte[] bytes = bytesToChange(p);
        int was = bytes[at] & 255;
        bytes[at] = (byte) v;
        return was;
    }

    public void move(int p, int from, int q, int to, int n) throws IllegalStateException, IndexOutOfBoundsException {
        requireOpen();
        requirePage(p);
        requirePage(q);
        requireSpan(from, n);
        requireSpan(to, n);
        // First q's bytes: if p is q, p's are then the same ones, and arraycopy minds the overlap.
        byte[] target = bytesToChange(q);
        System.arraycopy(bytesOf(p), from, target, to, n);
    }

    public long sum(int p) throws IllegalStateException, IndexOutOfBoundsException {
        requireOn();
        requirePage(p);
        byte[] bytes = bytesOf(p);
        long s = 7;
        for (int i = 0; i < PAGE; i++) {
            s = 31 * s + (bytes[i] & 255);
        }
        return s;
    }

    public void begin() throws IllegalStateException {
        requireOn();
        if (open) {
            throw new IllegalStateException("a transaction is open");
        }
        open = true;
    }

    public void commit() throws IllegalStateException, ArithmeticException {
        requireOpen();
        foldMarks(1);
        boolean powered = writeJournal() && writeFile() && !fuse.blowsBeforeEmptying();
        if (powered) {
            journal.cutTo(0);
            lasting++;
            powered = !fuse.blowsBehindEmptying();
        }
        settle(powered);
    }

    public void rollback() throws IllegalStateException {
        requireOpen();
        endTransaction();
    }

    public int mark() throws IllegalStateException {
        requireOpen();
        if (marks >= MOST_MARKS) {
            throw new IllegalStateException("there are as many marks as there may be");
        }
        marks++;
        layers[marks].lay(count);
        return marks;
    }

    public void back(int m) throws IllegalStateException, IndexOutOfBoundsException {
        requireOpen();
        requireMark(m);
        marks = m;
        count = layers[m].pagesBelow();
        layers[m].lay(count);
    }

    public void keep(int m) throws IllegalStateException, IndexOutOfBoundsException {
        requireOpen();
        requireMark(m);
        foldMarks(m);
    }

    public void power(int when, int k, int b) throws IllegalArgumentException {
        if (when < IN_JOURNAL || when > NOT_AT_ALL) {
            throw new IllegalArgumentException("when is not 0 to 4");
        }
        if (k < 0 || k > MOST_K) {
            throw new IllegalArgumentException("k is not 0 to 1000");
        }
        if (b < 0 || b > MOST_B) {
            throw new IllegalArgumentException("b is not 0 to 300");
        }
        fuse.set(when, k, b);
    }

    public int reopen() throws ArithmeticException {
        boolean powered = undo() && !fuse.blowsInReopen();
        if (powered) {
            journal.cutTo(0);
        }
        settle(powered);
        return count;
    }

    public int told(int what) throws IllegalArgumentException {
        switch (what) {
            case 0:
                return on ? 1 : 0;
            case 1:
                return open ? 1 : 0;
            case 2:
                return marks;
            case 3:
                return lasting;
            default:
                throw new IllegalArgumentException("what is not 0 to 3");
        }
    }

    private void requireOn() {
        if (!on) {
            throw new IllegalStateException("it is off");
        }
    }

    private void requireOpen() {
        requireOn();
        if (!open) {
            throw new IllegalStateException("no transaction is open");
        }
    }

    private void requirePage(int p) {
        if (p < 0 || p >= count) {
            throw new IndexOutOfBoundsException("no such page");
        }
    }

    private void requireByte(int p, int at) {
        requirePage(p);
        if (at < 0 || at >= PAGE) {
            throw new IndexOutOfBoundsException("no such byte");
        }
    }

    private void requireSpan(int start, int n) {
        // start + n could wrap, PAGE - n can't where n is not below 0.
        if (n < 0 || start < 0 || start > PAGE - n) {
            throw new IndexOutOfBoundsException("no such bytes");
        }
    }

    private void requireMark(int m) {
        if (m < 1 || m > marks) {
            throw new IndexOutOfBoundsException("no such mark");
        }
    }

    private byte[] bytesOf(int p) {
        for (int m = marks; m >= 0; m--) {
            if (layers[m].holds(p)) {
                return layers[m].bytesOf(p);
            }
        }
        return file.block(p);
    }

    /** Bytes of page p that may be written: what lies below the top layer must stay to go back to. */
    private byte[] bytesToChange(int p) {
        Layer top = layers[marks];
        if (!top.holds(p)) {
            byte[] was = bytesOf(p);
            System.arraycopy(was, 0, top.hold(p), 0, PAGE);
        }
        return top.bytesOf(p);
    }

    /** Forgets mark m and those behind it; what they hold goes to the layer below them. */
    private void foldMarks(int m) {
        for (int i = m; i <= marks; i++) {
            layers[m - 1].takeOver(layers[i]);
        }
        marks = m - 1;
    }

    /** Drops all that is in memory alone: pages are what the file holds. */
    private void endTransaction() {
        open = false;
        marks = 0;
        count = pagesInFile();
        layers[0].lay(count);
    }

    private void settle(boolean powered) {
        fuse.forget();
        endTransaction();
        on = powered;
        if (!powered) {
            throw new ArithmeticException("power failed");
        }
    }

    private int pagesInFile() {
        return file.length() / PAGE;
    }

    /** Writes to the journal what commit will write over; false if power failed. */
    private boolean writeJournal() {
        if (!layers[0].holdsAny(count)) {
            return true;
        }
        int before = pagesInFile();
        setNumber(before);
        boolean powered = write(journal, record, 0, NUMBER, IN_JOURNAL);
        for (int p = 0; p < before && powered; p++) {
            if (layers[0].holds(p)) {
                setNumber(p);
                System.arraycopy(file.block(p), 0, record, NUMBER, PAGE);
                powered = write(journal, record, journal.length(), RECORD, IN_JOURNAL);
            }
        }
        return powered;
    }

    /** Writes the changed pages to the file, new ones behind the others; false if power failed. */
    private boolean writeFile() {
        boolean powered = true;
        for (int p = 0; p < count && powered; p++) {
            if (layers[0].holds(p)) {
                powered = write(file, layers[0].bytesOf(p), p * PAGE, PAGE, IN_FILE);
            }
        }
        return powered;
    }

    /**
     * Makes the file what it was before a commit that was cut; false if power failed. The journal
     * stays as it is, so that this can be done again from its start. A record that is not whole is
     * left out: the file was not yet written to when it was cut.
     */
    private boolean undo() {
        if (journal.length() < NUMBER) {
            return true;
        }
        int before = journalNumber(0);
        int records = (journal.length() - NUMBER) / RECORD;
        boolean powered = true;
        for (int i = 0; i < records && powered; i++) {
            int at = NUMBER + i * RECORD;
            int p = journalNumber(at);
            if (p >= 0 && p < MOST) {
                journal.read(at + NUMBER, record, PAGE);
                powered = write(file, record, p * PAGE, PAGE, IN_REOPEN);
            }
        }
        if (powered) {
            file.cutTo(before * PAGE);
        }
        return powered;
    }

    /** Writes the first n bytes, or as many as power lets through; false if it failed. */
    private boolean write(LastingBytes to, byte[] bytes, int at, int n, int where) {
        to.write(at, bytes, fuse.bytesThrough(where, n));
        return !fuse.blown();
    }

    private void setNumber(int v) {
        for (int i = 0; i < NUMBER; i++) {
            record[i] = (byte) (v >> 8 * i);
        }
    }

    private int journalNumber(int at) {
        journal.read(at, record, NUMBER);
        int v = 0;
        for (int i = 0; i < NUMBER; i++) {
            v |= (record[i] & 255) << 8 * i;
        }
        return v;
    }

    /** An object round the bytes, since one that is not yet made is told by null, as a bare row is not to be. */
    private static final class Block {
        private final byte[] bytes = new byte[PAGE];
    }

    /** Blocks that are made when they are first asked for, then used again: few runs need all. */
    private static final class Blocks {
        private final Block[] made;

        Blocks(int most) {
            made = new Block[most];
        }

        byte[] bytesOf(int i) {
            if (made[i] == null) {
                made[i] = new Block();
            }
            return made[i].bytes;
        }

        /** Swaps block i with the other's, which is cheaper than a copy and loses none of the two. */
        void swap(int i, Blocks other) {
            Block mine = made[i];
            made[i] = other.made[i];
            other.made[i] = mine;
        }
    }

    /** Bytes that outlast power: the file is one, the journal another. */
    private static final class LastingBytes {
        private final Blocks blocks;
        private int length = 0;

        LastingBytes(int most) {
            blocks = new Blocks((most + PAGE - 1) / PAGE);
        }

        int length() {
            return length;
        }

        byte[] block(int i) {
            return blocks.bytesOf(i);
        }

        void write(int at, byte[] from, int n) {
            for (int i = 0; i < n; i++) {
                blocks.bytesOf((at + i) / PAGE)[(at + i) % PAGE] = from[i];
            }
            length = Math.max(length, at + n);
        }

        void read(int at, byte[] into, int n) {
            for (int i = 0; i < n; i++) {
                into[i] = blocks.bytesOf((at + i) / PAGE)[(at + i) % PAGE];
            }
        }

        void cutTo(int n) {
            length = Math.min(length, n);
        }
    }

    /** The pages that were changed since begin, or since a mark, as they are now. */
    private static final class Layer {
        private final Blocks blocks = new Blocks(MOST);
        private final boolean[] held = new boolean[MOST];
        private int pagesBelow = 0;

        /** Makes the layer empty, on top of so many pages. */
        void lay(int below) {
            for (int p = 0; p < MOST; p++) {
                held[p] = false;
            }
            pagesBelow = below;
        }

        int pagesBelow() {
            return pagesBelow;
        }

        boolean holds(int p) {
            return held[p];
        }

        boolean holdsAny(int count) {
            for (int p = 0; p < count; p++) {
                if (held[p]) {
                    return true;
                }
            }
            return false;
        }

        byte[] bytesOf(int p) {
            return blocks.bytesOf(p);
        }

        /** From now on page p is here; what its bytes are is the caller's to say. */
        byte[] hold(int p) {
            held[p] = true;
            return blocks.bytesOf(p);
        }

        void takeOver(Layer upper) {
            for (int p = 0; p < MOST; p++) {
                if (upper.held[p]) {
                    blocks.swap(p, upper.blocks);
                    held[p] = true;
                }
            }
        }
    }

    /** What was said by power, counted down as writes are done. */
    private static final class Fuse {
        private int when = NOT_AT_ALL;
        private int k = 0;
        private int b = 0;
        private boolean blown = false;

        void set(int newWhen, int newK, int newB) {
            when = newWhen;
            k = newK;
            b = newB;
            blown = false;
        }

        void forget() {
            set(NOT_AT_ALL, 0, 0);
        }

        boolean blown() {
            return blown;
        }

        /** How many bytes of the next write get through, of n. */
        int bytesThrough(int where, int n) {
            if (when != where) {
                return n;
            }
            if (k > 0) {
                k--;
                return n;
            }
            blown = true;
            return Math.min(b, n);
        }

        /** Also if there were fewer writes than was said. */
        boolean blowsBeforeEmptying() {
            return when == IN_JOURNAL || when == IN_FILE || when == AT_EMPTYING && k == 0;
        }

        boolean blowsBehindEmptying() {
            return when == AT_EMPTYING;
        }

        boolean blowsInReopen() {
            return when == IN_REOPEN;
        }
    }
}
