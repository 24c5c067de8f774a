import java.lang.reflect.Field;
import java.lang.reflect.Method;
import java.util.Arrays;

/**
 * A write is cut just where power said. No call of the face can tell a cut write from a whole one, as
 * both are undone, so this looks at the file and the journal inside the object.
 */
public final class CutTest {
    private static final int PAGE = PageStore.PAGE;
    private static final int[] JOURNAL_WRITES = {4, 4 + PAGE, 4 + PAGE, 4 + PAGE};
    private static final int JOURNAL = Arrays.stream(JOURNAL_WRITES).sum();
    private static final int MOST_B = 300;

    private static final Check CHECK = new Check();
    private static final byte[] BEFORE = Sample.bytes(Sample.filled());
    private static final byte[] BEHIND = bytesBehind();

    public static void main(String[] args) {
        CHECK.sentence("14: 0: write k to the journal is cut after b BYTES", () -> cutJournal(0, PAGE + 3));
        CHECK.sentence("14: 0: after all, if it has fewer", () -> cutJournal(PAGE + 4, MOST_B));
        CHECK.sentence("14: 1: likewise of the writes to the file", () -> cutFile(0, PAGE - 1));
        CHECK.sentence("14: 1: after all, if it has fewer", () -> cutFile(PAGE, MOST_B));
        CHECK.sentence("14: 0: if there are fewer, right before it is emptied", () -> beforeEmptying(0, 4, 5, 1000));
        CHECK.sentence("14: 1: if there are fewer, right before it is emptied", () -> beforeEmptying(1, 5, 6, 1000));
        CHECK.sentence("14: 2: right before the journal is emptied if k is 0", () -> beforeEmptying(2, 0));
        CHECK.sentence("14: 2: else right behind it", CutTest::behindEmptying);
        CHECK.sentence("14: or nothing changed", CutTest::nothingChanged);
        CHECK.sentence("14: 3: write k to the file, of what is undone, is cut", () -> cutUndo(0, PAGE - 1));
        CHECK.sentence("14: 3: after all of it, if it has fewer", () -> cutUndo(PAGE, MOST_B));
        CHECK.sentence("14: 3: if there are fewer, before it is done", CutTest::beforeUndoIsDone);
        CHECK.sentence("14: Only writes that commit does itself are counted", CutTest::onlyCommitCounts);
        CHECK.sentence("14: Only writes that reopen does itself are counted", CutTest::onlyReopenCounts);
        CHECK.sentence("Terms: to empty the journal is the last thing that commit does", CutTest::commitEmpties);
        CHECK.sentence("15: what is lasting is there", CutTest::reopenUndoes);
        CHECK.end();
    }

    private static byte[] bytesBehind() {
        PageStore x = Sample.filled();
        Sample.change(x);
        x.commit();
        return Sample.bytes(x);
    }

    private static String say(int when, int k, int b) {
        return "power(" + when + ", " + k + ", " + b + ")";
    }

    /** Off, with a commit behind it in which power failed as is said. */
    private static PageStore cut(int when, int k, int b) {
        PageStore x = Sample.filled();
        Sample.change(x);
        x.power(when, k, b);
        CHECK.power(say(when, k, b) + ", commit()", x::commit);
        return x;
    }

    /** The file must not be written to before what it was is in the journal. */
    private static void cutJournal(int lowest, int highest) {
        int written = 0;
        for (int k = 0; k < JOURNAL_WRITES.length; k++) {
            for (int b = lowest; b <= highest; b++) {
                PageStore x = cut(0, k, b);
                int due = written + Math.min(b, JOURNAL_WRITES[k]);
                CHECK.is(say(0, k, b) + ": the journal's length", content(x, "journal").length, due);
                same(say(0, k, b) + ": the file", content(x, "file"), BEFORE);
            }
            written += JOURNAL_WRITES[k];
        }
    }

    private static void cutFile(int lowest, int highest) {
        byte[] due = BEFORE;
        for (int k = 0; k < Sample.WRITTEN.length; k++) {
            int at = Sample.WRITTEN[k] * PAGE;
            for (int b = lowest; b <= highest; b++) {
                PageStore x = cut(1, k, b);
                same(say(1, k, b) + ": the file", content(x, "file"), over(due, BEHIND, at, Math.min(b, PAGE)));
                CHECK.is(say(1, k, b) + ": the journal's length", content(x, "journal").length, JOURNAL);
            }
            due = over(due, BEHIND, at, PAGE);
        }
    }

    private static void cutUndo(int lowest, int highest) {
        byte[] due = BEHIND;
        for (int k = 0; k < Sample.CHANGED.length; k++) {
            int at = Sample.CHANGED[k] * PAGE;
            for (int b = lowest; b <= highest; b++) {
                PageStore x = cut(2, 0, 0);
                cutReopen(x, k, b);
                same(say(3, k, b) + ": the file", content(x, "file"), over(due, BEFORE, at, Math.min(b, PAGE)));
            }
            due = over(due, BEFORE, at, PAGE);
        }
    }

    /** The journal must stay, since what is not yet undone is to be undone by the next reopen. */
    private static void cutReopen(PageStore x, int k, int b) {
        byte[] journal = content(x, "journal");
        x.power(3, k, b);
        CHECK.power(say(3, k, b) + ", reopen()", x::reopen);
        same(say(3, k, b) + ": the journal", content(x, "journal"), journal);
    }

    private static void beforeEmptying(int when, int... ks) {
        for (int k : ks) {
            for (int b : new int[] {0, 1, MOST_B}) {
                PageStore x = cut(when, k, b);
                same(say(when, k, b) + ": the file", content(x, "file"), BEHIND);
                CHECK.is(say(when, k, b) + ": the journal's length", content(x, "journal").length, JOURNAL);
            }
        }
    }

    private static void behindEmptying() {
        for (int k : new int[] {1, 2, 1000}) {
            PageStore x = cut(2, k, 0);
            same(say(2, k, 0) + ": the file", content(x, "file"), BEHIND);
            CHECK.is(say(2, k, 0) + ": the journal's length", content(x, "journal").length, 0);
        }
    }

    private static void nothingChanged() {
        for (int when = 0; when <= 2; when++) {
            PageStore x = Sample.filled();
            x.begin();
            x.power(when, 0, 9);
            CHECK.power(say(when, 0, 9) + ", commit()", x::commit);
            same(say(when, 0, 9) + ": the file", content(x, "file"), BEFORE);
            CHECK.is(say(when, 0, 9) + ": the journal's length", content(x, "journal").length, 0);
        }
    }

    private static void beforeUndoIsDone() {
        for (int k : new int[] {3, 4, 1000}) {
            for (int b : new int[] {0, 1, MOST_B}) {
                PageStore x = cut(2, 0, 0);
                cutReopen(x, k, b);
                CHECK.is(say(3, k, b) + ": the journal's length", content(x, "journal").length, JOURNAL);
                x.reopen();
                same(say(3, k, b) + ": the file behind the next", content(x, "file"), BEFORE);
            }
        }
    }

    /** Many a call that changes pages comes between what is said and the commit. */
    private static void onlyCommitCounts() {
        for (int when = 0; when <= 1; when++) {
            for (int k = 0; k < Sample.WRITTEN.length; k++) {
                PageStore x = Sample.filled();
                x.power(when, k, 99);
                Sample.change(x);
                x.back(1);
                x.rollback();
                Sample.change(x);
                x.mark();
                x.put(2, 0, 1);
                x.back(2);
                x.keep(1);
                CHECK.power(say(when, k, 99) + ", commit()", x::commit);
                PageStore due = cut(when, k, 99);
                same(say(when, k, 99) + ": the journal", content(x, "journal"), content(due, "journal"));
                same(say(when, k, 99) + ": the file", content(x, "file"), content(due, "file"));
            }
        }
    }

    /** Neither the writes of the commit nor those of a reopen before. */
    private static void onlyReopenCounts() {
        for (int k = 0; k < Sample.CHANGED.length; k++) {
            PageStore x = cut(1, 4, 99);
            for (int b = 10; b <= 50; b += 20) {
                byte[] before = content(x, "file");
                cutReopen(x, k, b);
                byte[] due = before;
                for (int i = 0; i < k; i++) {
                    due = over(due, BEFORE, Sample.CHANGED[i] * PAGE, PAGE);
                }
                due = over(due, BEFORE, Sample.CHANGED[k] * PAGE, b);
                same(say(3, k, b) + ": the file", content(x, "file"), due);
            }
        }
    }

    private static void commitEmpties() {
        PageStore x = Sample.filled();
        CHECK.is("the journal's length", content(x, "journal").length, 0);
        Sample.change(x);
        same("the file before commit", content(x, "file"), BEFORE);
        x.commit();
        same("the file behind commit", content(x, "file"), BEHIND);
        CHECK.is("the journal's length behind commit", content(x, "journal").length, 0);
    }

    private static void reopenUndoes() {
        for (PageStore x : new PageStore[] {cut(0, 2, 100), cut(1, 4, 100), cut(2, 0, 0)}) {
            CHECK.is("reopen()", x.reopen(), Sample.OLD);
            same("the file", content(x, "file"), BEFORE);
            CHECK.is("the journal's length", content(x, "journal").length, 0);
        }
    }

    /** The bytes with n others written over them, or behind them, at a place. */
    private static byte[] over(byte[] bytes, byte[] others, int at, int n) {
        byte[] result = Arrays.copyOf(bytes, Math.max(bytes.length, at + n));
        System.arraycopy(others, at, result, at, n);
        return result;
    }

    private static void same(String what, byte[] got, byte[] due) {
        CHECK.is(what + ", length", got.length, due.length);
        CHECK.is(what + ", first byte that differs", Arrays.mismatch(got, due), -1);
    }

    private static byte[] content(PageStore x, String name) {
        try {
            Field field = PageStore.class.getDeclaredField(name);
            field.setAccessible(true);
            return bytesOf(field.get(x));
        } catch (ReflectiveOperationException e) {
            throw new AssertionError(e);
        }
    }

    private static byte[] bytesOf(Object lasting) throws ReflectiveOperationException {
        Method length = lasting.getClass().getDeclaredMethod("length");
        length.setAccessible(true);
        byte[] bytes = new byte[(Integer) length.invoke(lasting)];
        Method read = lasting.getClass().getDeclaredMethod("read", int.class, byte[].class, int.class);
        read.setAccessible(true);
        read.invoke(lasting, 0, bytes, bytes.length);
        return bytes;
    }
}
