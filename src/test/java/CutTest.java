import java.lang.reflect.Field;
import java.lang.reflect.Method;
import java.util.Arrays;

/**
 * A write is cut just where power said. No call of the face can tell a cut write from a whole one, as
 * both are undone, so this looks at the file and the journal inside the object.
 */
public final class CutTest {
    private static final int PAGE = PageStore.PAGE;
    private static final int[] JOURNAL_WRITES = {4, 4 + PAGE, 4 + PAGE, 4 + PAGE};

    private static final Check CHECK = new Check();

    public static void main(String[] args) throws ReflectiveOperationException {
        byte[] before = Sample.bytes(Sample.filled());
        PageStore changed = Sample.filled();
        Sample.change(changed);
        changed.commit();
        byte[] behind = Sample.bytes(changed);
        for (int b = 0; b <= 300; b++) {
            cutJournal(b, before);
            cutFile(b, before, behind);
            cutUndo(b, before, behind);
        }
        fewerWrites(before, behind);
        CHECK.end();
    }

    private static PageStore cut(int when, int k, int b) {
        PageStore x = Sample.filled();
        Sample.change(x);
        x.power(when, k, b);
        CHECK.throwsIt("commit()", ArithmeticException.class, x::commit);
        return x;
    }

    private static void cutJournal(int b, byte[] before) throws ReflectiveOperationException {
        int whole = 0;
        for (int k = 0; k < JOURNAL_WRITES.length; k++) {
            PageStore x = cut(0, k, b);
            String what = "power(0, " + k + ", " + b + ")";
            CHECK.is(what + ": the journal", content(x, "journal").length, whole + Math.min(b, JOURNAL_WRITES[k]));
            same(what + ": the file", content(x, "file"), before);
            whole += JOURNAL_WRITES[k];
        }
    }

    private static void cutFile(int b, byte[] before, byte[] behind) throws ReflectiveOperationException {
        byte[] due = before;
        for (int k = 0; k < Sample.WRITTEN.length; k++) {
            PageStore x = cut(1, k, b);
            int at = Sample.WRITTEN[k] * PAGE;
            String what = "power(1, " + k + ", " + b + ")";
            same(what + ": the file", content(x, "file"), over(due, behind, at, Math.min(b, PAGE)));
            due = over(due, behind, at, PAGE);
        }
    }

    private static void cutUndo(int b, byte[] before, byte[] behind) throws ReflectiveOperationException {
        byte[] due = behind;
        for (int k = 0; k < Sample.CHANGED.length; k++) {
            PageStore x = cut(2, 0, 0);
            byte[] journal = content(x, "journal");
            x.power(3, k, b);
            CHECK.throwsIt("reopen()", ArithmeticException.class, x::reopen);
            int at = Sample.CHANGED[k] * PAGE;
            String what = "power(3, " + k + ", " + b + ")";
            same(what + ": the file", content(x, "file"), over(due, before, at, Math.min(b, PAGE)));
            same(what + ": the journal stays", content(x, "journal"), journal);
            due = over(due, before, at, PAGE);
        }
    }

    /** Then all is written, and the journal is not yet emptied; reopen undoes all of it. */
    private static void fewerWrites(byte[] before, byte[] behind) throws ReflectiveOperationException {
        int whole = Arrays.stream(JOURNAL_WRITES).sum();
        for (PageStore x : new PageStore[] {cut(0, 4, 0), cut(0, 1000, 300), cut(1, 5, 0), cut(2, 0, 0)}) {
            same("fewer writes: the file", content(x, "file"), behind);
            CHECK.is("fewer writes: the journal", content(x, "journal").length, whole);
            x.reopen();
            same("reopen(): the file", content(x, "file"), before);
            CHECK.is("reopen(): the journal", content(x, "journal").length, 0);
        }
        PageStore lasting = cut(2, 1, 0);
        same("power(2, 1, 0): the file", content(lasting, "file"), behind);
        CHECK.is("power(2, 1, 0): the journal", content(lasting, "journal").length, 0);
    }

    /** The bytes with n others written over them, or behind them, at a place. */
    private static byte[] over(byte[] bytes, byte[] others, int at, int n) {
        byte[] result = Arrays.copyOf(bytes, Math.max(bytes.length, at + n));
        System.arraycopy(others, at, result, at, n);
        return result;
    }

    private static void same(String what, byte[] got, byte[] due) {
        CHECK.is(what + ", length", got.length, due.length);
        CHECK.is(what + ", first byte that differs", Arrays.mismatch(got, due), -1);
    }

    private static byte[] content(PageStore x, String name) throws ReflectiveOperationException {
        Field field = PageStore.class.getDeclaredField(name);
        field.setAccessible(true);
        Object lasting = field.get(x);
        Method length = lasting.getClass().getDeclaredMethod("length");
        length.setAccessible(true);
        byte[] bytes = new byte[(Integer) length.invoke(lasting)];
        Method read = lasting.getClass().getDeclaredMethod("read", int.class, byte[].class, int.class);
        read.setAccessible(true);
        read.invoke(lasting, 0, bytes, bytes.length);
        return bytes;
    }
}
