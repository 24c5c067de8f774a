import java.math.BigInteger;

/** Promises 1 to 7, a test for each of their sentences: a new object, and pages of bytes. */
public final class PagesTest {
    private static final int PAGE = PageStore.PAGE;
    private static final int MOST = PageStore.MOST;
    private static final int LOW = Integer.MIN_VALUE;
    private static final int HIGH = Integer.MAX_VALUE;
    /** Page numbers that are not there where there are two. */
    private static final int[] NO_PAGES = {-1, 2, 256, LOW, HIGH};
    private static final int[] NO_BYTES = {-1, 256, 257, LOW, HIGH};

    private static final Check CHECK = new Check();

    public static void main(String[] args) {
        newObject();
        pagesAndAdd();
        getAndPut();
        move();
        sum();
        CHECK.end();
    }

    private static void newObject() {
        CHECK.sentence("1: No PAGES", PagesTest::newHasNoPages);
        CHECK.sentence("1: it is on", PagesTest::newIsOn);
        CHECK.sentence("1: no TRANSACTION is open", PagesTest::newHasNoneOpen);
    }

    private static void pagesAndAdd() {
        CHECK.sentence("2: How many PAGES there are", PagesTest::howManyPages);
        CHECK.sentence("2: IllegalStateException if it is OFF", PagesTest::pagesIfOff);
        CHECK.sentence("3: One more PAGE, behind all: its number", PagesTest::addAnswersItsNumber);
        CHECK.sentence("3: of zeros", PagesTest::addIsOfZeros);
        CHECK.sentence("3: IllegalStateException if it is OFF", PagesTest::addIfOff);
        CHECK.sentence("3: or no TRANSACTION is open", PagesTest::addIfNoneOpen);
        CHECK.sentence("3: or there are MOST", PagesTest::addIfThereAreMost);
    }

    private static void getAndPut() {
        CHECK.sentence("4: BYTE at of PAGE p, 0 to 255", PagesTest::getIsOneByte);
        CHECK.sentence("4: IllegalStateException if it is OFF", PagesTest::getIfOff);
        CHECK.sentence("4: IndexOutOfBoundsException if there is no such PAGE", PagesTest::getOfNoPage);
        CHECK.sentence("4: IndexOutOfBoundsException if there is no such BYTE", PagesTest::getOfNoByte);
        CHECK.sentence("5: BYTE at of PAGE p becomes v", PagesTest::putChangesOneByte);
        CHECK.sentence("5: the low 8 bits of v", PagesTest::putTakesLowBits);
        CHECK.sentence("5: what it was", PagesTest::putAnswersWhatItWas);
        CHECK.sentence("5: IllegalStateException if it is OFF", PagesTest::putIfOff);
        CHECK.sentence("5: or no TRANSACTION is open", PagesTest::putIfNoneOpen);
        CHECK.sentence("5: then IndexOutOfBoundsException if there is no such PAGE", PagesTest::putToNoPage);
        CHECK.sentence("5: then IndexOutOfBoundsException if there is no such BYTE", PagesTest::putToNoByte);
    }

    private static void move() {
        CHECK.sentence("6: n BYTES of PAGE q become those of PAGE p", PagesTest::moveToAnotherPage);
        CHECK.sentence("6: all 256 of them", PagesTest::moveWholePage);
        CHECK.sentence("6: none of them", PagesTest::moveOfNone);
        CHECK.sentence("6: what they were before, further up", PagesTest::moveUpOverItself);
        CHECK.sentence("6: what they were before, further down", PagesTest::moveDownOverItself);
        CHECK.sentence("6: IllegalStateException as by put, if it is OFF", PagesTest::moveIfOff);
        CHECK.sentence("6: IllegalStateException as by put, if none is open", PagesTest::moveIfNoneOpen);
        CHECK.sentence("6: IndexOutOfBoundsException if n is below 0", PagesTest::moveBelowNone);
        CHECK.sentence("6: from: 0 to 256", PagesTest::moveFrom);
        CHECK.sentence("6: from + n: 0 to 256", PagesTest::moveFromUpTo);
        CHECK.sentence("6: to: 0 to 256", PagesTest::moveTo);
        CHECK.sentence("6: to + n: 0 to 256", PagesTest::moveToUpTo);
        CHECK.sentence("6: from + n, to + n, as they wrap", PagesTest::moveThatWraps);
        CHECK.sentence("6: p, also with n = 0", PagesTest::moveFromNoPage);
        CHECK.sentence("6: q, also with n = 0", PagesTest::moveToNoPage);
    }

    private static void sum() {
        CHECK.sentence("7: from 7 on, 31 times that and the BYTE", PagesTest::sumOverBytes);
        CHECK.sentence("7: for each", PagesTest::sumOverEach);
        CHECK.sentence("7: the BYTE is 0 to 255", PagesTest::sumOfHighBytes);
        CHECK.sentence("7: a LONG that wraps", PagesTest::sumWraps);
        CHECK.sentence("7: IllegalStateException as by get", PagesTest::sumIfOff);
        CHECK.sentence("7: IndexOutOfBoundsException as by get", PagesTest::sumOfNoPage);
    }

    private static void newHasNoPages() {
        PageStore x = new PageStore();
        CHECK.is("pages()", x.pages(), 0);
        CHECK.index("get(0, 0)", () -> x.get(0, 0));
        CHECK.index("sum(0)", () -> x.sum(0));
        CHECK.is("reopen()", x.reopen(), 0);
        Stores.lasting(3);
        CHECK.is("pages() if another object has some", x.pages(), 0);
    }

    private static void newIsOn() {
        CHECK.is("told(0)", new PageStore().told(0), 1);
        CHECK.fine("begin()", new PageStore()::begin);
    }

    private static void newHasNoneOpen() {
        PageStore x = new PageStore();
        CHECK.is("told(1)", x.told(1), 0);
        CHECK.is("told(2)", x.told(2), 0);
        CHECK.is("told(3)", x.told(3), 0);
        CHECK.state("add()", x::add);
        CHECK.state("commit()", x::commit);
        CHECK.state("rollback()", x::rollback);
    }

    private static void howManyPages() {
        PageStore x = Stores.opened(0);
        CHECK.is("pages() of none", x.pages(), 0);
        x.add();
        CHECK.is("pages() of one", x.pages(), 1);
        x.mark();
        x.add();
        x.add();
        CHECK.is("pages() of three", x.pages(), 3);
        x.back(1);
        CHECK.is("pages() behind back", x.pages(), 1);
        x.commit();
        CHECK.is("pages() if none is open", x.pages(), 1);
    }

    private static void pagesIfOff() {
        PageStore x = Stores.off(3);
        CHECK.state("pages()", x::pages);
        CHECK.state("pages() of none", Stores.off(0)::pages);
        x.reopen();
        CHECK.is("pages() behind reopen", x.pages(), 3);
    }

    private static void addAnswersItsNumber() {
        PageStore x = Stores.opened(0);
        for (int p = 0; p < 300; p++) {
            CHECK.is("add()", x.add(), p);
        }
        x.commit();
        x.begin();
        CHECK.is("add() behind lasting ones", x.add(), 300);
        x.mark();
        CHECK.is("add() behind a mark", x.add(), 301);
        x.back(1);
        CHECK.is("add() behind back", x.add(), 301);
        x.rollback();
        x.begin();
        CHECK.is("add() behind rollback", x.add(), 300);
    }

    /** Where a page was before that is no more: it must not be met again. */
    private static void addIsOfZeros() {
        PageStore x = Stores.opened(0);
        addZerosThenFill(x, "the first");
        addZerosThenFill(x, "another");
        x.rollback();
        x.begin();
        addZerosThenFill(x, "behind rollback");
        x.mark();
        addZerosThenFill(x, "behind a mark");
        x.back(1);
        addZerosThenFill(x, "behind back");
        x.keep(1);
        addZerosThenFill(x, "behind keep");
        Stores.failCommit(x);
        x.reopen();
        x.begin();
        addZerosThenFill(x, "behind a commit that failed");
        x.reopen();
        x.begin();
        addZerosThenFill(x, "behind reopen");
    }

    private static void addZerosThenFill(PageStore x, String what) {
        int p = x.add();
        for (int at : new int[] {0, 1, 127, 254, 255}) {
            CHECK.is(what + ", byte " + at, x.get(p, at), 0);
        }
        CHECK.is(what + ", sum()", x.sum(p), sumOf(new int[PAGE]));
        x.put(p, 0, 255);
        for (int n = 1; n < PAGE; n *= 2) {
            x.move(p, 0, p, n, n);
        }
    }

    private static void addIfOff() {
        CHECK.state("add()", Stores.off(1)::add);
    }

    private static void addIfNoneOpen() {
        PageStore x = new PageStore();
        CHECK.state("add() to a new object", x::add);
        PageStore y = Stores.lasting(1);
        CHECK.state("add() behind commit", y::add);
        CHECK.is("pages()", y.pages(), 1);
        y.begin();
        y.rollback();
        CHECK.state("add() behind rollback", y::add);
    }

    /** No run of 512 calls gets there, but the document names the limit. */
    private static void addIfThereAreMost() {
        PageStore x = Stores.opened(MOST - 1);
        x.mark();
        CHECK.is("add() of the last", x.add(), MOST - 1);
        CHECK.state("add() of one more", x::add);
        CHECK.is("pages()", x.pages(), MOST);
        x.back(1);
        CHECK.is("add() behind back", x.add(), MOST - 1);
        x.put(MOST - 1, 255, 1);
        x.commit();
        x.begin();
        CHECK.state("add() if they are lasting", x::add);
        for (int p = 0; p < MOST; p++) {
            x.put(p, 1, p);
        }
        x.power(1, MOST - 1, 100);
        CHECK.power("commit() of all, cut in the last", x::commit);
        CHECK.is("reopen()", x.reopen(), MOST);
        CHECK.is("the last page, undone", x.get(MOST - 1, 1), 0);
        CHECK.is("the last page, as it was", x.get(MOST - 1, 255), 1);
    }

    private static void getIsOneByte() {
        PageStore x = Stores.opened(2);
        x.put(0, 0, 1);
        x.put(0, 255, 127);
        x.put(1, 0, 128);
        x.put(1, 255, 255);
        fourBytes(x, "in the transaction");
        x.commit();
        fourBytes(x, "if none is open");
        x.reopen();
        fourBytes(x, "behind reopen");
    }

    private static void fourBytes(PageStore x, String when) {
        CHECK.is("get(0, 0) " + when, x.get(0, 0), 1);
        CHECK.is("get(0, 255) " + when, x.get(0, 255), 127);
        CHECK.is("get(1, 0) " + when, x.get(1, 0), 128);
        CHECK.is("get(1, 255) " + when, x.get(1, 255), 255);
        CHECK.is("get(1, 1) " + when, x.get(1, 1), 0);
    }

    private static void getIfOff() {
        PageStore x = Stores.off(1);
        CHECK.state("get(0, 0)", () -> x.get(0, 0));
        CHECK.state("get() of no page", () -> x.get(1, 0));
        CHECK.state("get() of no byte", () -> x.get(0, 256));
    }

    private static void getOfNoPage() {
        PageStore x = Stores.lasting(2);
        for (int wrong : NO_PAGES) {
            CHECK.index("get(" + wrong + ", 0)", () -> x.get(wrong, 0));
        }
        x.begin();
        x.mark();
        x.add();
        CHECK.is("get(2, 0) if it is there", x.get(2, 0), 0);
        x.back(1);
        CHECK.index("get(2, 0) of what is no more", () -> x.get(2, 0));
    }

    private static void getOfNoByte() {
        PageStore x = Stores.lasting(2);
        for (int wrong : NO_BYTES) {
            CHECK.index("get(0, " + wrong + ")", () -> x.get(0, wrong));
            CHECK.index("get(1, " + wrong + ")", () -> x.get(1, wrong));
        }
    }

    private static void putChangesOneByte() {
        PageStore x = Stores.opened(3);
        for (int at : new int[] {0, 100, 255}) {
            x.put(1, at, 7);
            CHECK.is("get(1, " + at + ")", x.get(1, at), 7);
        }
        int[] due = new int[PAGE];
        due[0] = 7;
        due[100] = 7;
        due[255] = 7;
        CHECK.is("sum(1)", x.sum(1), sumOf(due));
        CHECK.is("sum(0), another page", x.sum(0), sumOf(new int[PAGE]));
        CHECK.is("sum(2), another page", x.sum(2), sumOf(new int[PAGE]));
    }

    private static void putTakesLowBits() {
        int[] given = {0, 255, 256, 257, 511, -1, -128, -255, -256, -257, HIGH, LOW, 0x12345678};
        int[] due = {0, 255, 0, 1, 255, 255, 128, 1, 0, 255, 255, 0, 0x78};
        PageStore x = Stores.opened(1);
        for (int i = 0; i < given.length; i++) {
            x.put(0, i, given[i]);
            CHECK.is("get() behind put() of " + given[i], x.get(0, i), due[i]);
        }
    }

    private static void putAnswersWhatItWas() {
        PageStore x = Stores.opened(1);
        CHECK.is("put() over a zero", x.put(0, 255, 200), 0);
        CHECK.is("put() over 200", x.put(0, 255, -1), 200);
        x.commit();
        x.begin();
        CHECK.is("put() over what is lasting", x.put(0, 255, 1), 255);
        x.mark();
        CHECK.is("put() over what is below a mark", x.put(0, 255, 2), 1);
    }

    private static void putIfOff() {
        PageStore x = Stores.off(1);
        CHECK.state("put(0, 0, 1)", () -> x.put(0, 0, 1));
        CHECK.state("put() to no page", () -> x.put(1, 0, 1));
        CHECK.state("put() to no byte", () -> x.put(0, 256, 1));
    }

    private static void putIfNoneOpen() {
        PageStore x = Stores.lasting(1);
        CHECK.state("put(0, 0, 1)", () -> x.put(0, 0, 1));
        CHECK.is("get(0, 0)", x.get(0, 0), 0);
        CHECK.state("put() to no page", () -> x.put(1, 0, 1));
        CHECK.state("put() to no byte", () -> x.put(0, -1, 1));
    }

    private static void putToNoPage() {
        PageStore x = Stores.opened(2);
        for (int wrong : NO_PAGES) {
            CHECK.index("put(" + wrong + ", 0, 1)", () -> x.put(wrong, 0, 1));
        }
    }

    private static void putToNoByte() {
        PageStore x = Stores.opened(2);
        for (int wrong : NO_BYTES) {
            CHECK.index("put(0, " + wrong + ", 1)", () -> x.put(0, wrong, 1));
            CHECK.index("put(1, " + wrong + ", 1)", () -> x.put(1, wrong, 1));
        }
    }

    /** Two lasting pages and a transaction: bytes 0 to 7 of page 0 are 10 to 17, all others 0. */
    private static PageStore toMove() {
        PageStore x = Stores.opened(2);
        for (int i = 0; i < 8; i++) {
            x.put(0, i, 10 + i);
        }
        x.commit();
        x.begin();
        return x;
    }

    private static void moveToAnotherPage() {
        PageStore x = toMove();
        long before = x.sum(0);
        x.move(0, 1, 1, 253, 3);
        int[] due = new int[PAGE];
        due[253] = 11;
        due[254] = 12;
        due[255] = 13;
        CHECK.is("sum() of where to", x.sum(1), sumOf(due));
        CHECK.is("sum() of where from", x.sum(0), before);
        x.move(1, 255, 1, 0, 1);
        due[0] = 13;
        CHECK.is("sum() with one byte more", x.sum(1), sumOf(due));
    }

    private static void moveWholePage() {
        PageStore x = toMove();
        x.put(0, 255, 9);
        long before = x.sum(0);
        x.move(0, 0, 1, 0, 256);
        CHECK.is("sum() of where to", x.sum(1), before);
        CHECK.fine("move() to itself", () -> x.move(0, 0, 0, 0, 256));
        CHECK.is("sum() of where from", x.sum(0), before);
    }

    private static void moveOfNone() {
        PageStore x = toMove();
        String before = Stores.pages(x);
        CHECK.fine("move() from the end", () -> x.move(0, 256, 1, 0, 0));
        CHECK.fine("move() to the end", () -> x.move(0, 0, 1, 256, 0));
        CHECK.fine("move() in one page", () -> x.move(0, 3, 0, 5, 0));
        CHECK.same("pages", Stores.pages(x), before);
    }

    private static void moveUpOverItself() {
        PageStore x = toMove();
        x.move(0, 0, 0, 2, 6);
        for (int i = 0; i < 8; i++) {
            CHECK.is("get(0, " + i + ")", x.get(0, i), i < 2 ? 10 + i : 8 + i);
        }
        x.move(0, 0, 0, 1, 255);
        CHECK.is("get(0, 0), all but one moved", x.get(0, 0), 10);
        CHECK.is("get(0, 2), all but one moved", x.get(0, 2), 11);
        CHECK.is("get(0, 8), all but one moved", x.get(0, 8), 15);
    }

    private static void moveDownOverItself() {
        PageStore x = toMove();
        x.move(0, 2, 0, 0, 6);
        for (int i = 0; i < 8; i++) {
            CHECK.is("get(0, " + i + ")", x.get(0, i), i < 6 ? 12 + i : 10 + i);
        }
        x.put(0, 255, 9);
        x.move(0, 1, 0, 0, 255);
        CHECK.is("get(0, 0), all but one moved", x.get(0, 0), 13);
        CHECK.is("get(0, 254), all but one moved", x.get(0, 254), 9);
        CHECK.is("get(0, 255), all but one moved", x.get(0, 255), 9);
    }

    private static void moveIfOff() {
        PageStore x = Stores.off(1);
        CHECK.state("move()", () -> x.move(0, 0, 0, 0, 1));
        CHECK.state("move() of none", () -> x.move(0, 0, 0, 0, 0));
        CHECK.state("move() of -1", () -> x.move(0, 0, 0, 0, -1));
        CHECK.state("move() from no page", () -> x.move(1, 0, 0, 0, 1));
    }

    private static void moveIfNoneOpen() {
        PageStore x = Stores.lasting(1);
        CHECK.state("move()", () -> x.move(0, 0, 0, 0, 1));
        CHECK.state("move() of none", () -> x.move(0, 0, 0, 0, 0));
        CHECK.state("move() of -1", () -> x.move(0, 0, 0, 0, -1));
        CHECK.state("move() to no page", () -> x.move(0, 0, 1, 0, 1));
    }

    private static void moveBelowNone() {
        PageStore x = toMove();
        for (int wrong : new int[] {-1, -5, -256, LOW}) {
            CHECK.index("move() of " + wrong, () -> x.move(0, 0, 1, 0, wrong));
            CHECK.index("move() at 5, of " + wrong, () -> x.move(0, 5, 1, 5, wrong));
            CHECK.index("move() at 256, of " + wrong, () -> x.move(0, 256, 1, 256, wrong));
        }
    }

    private static void moveFrom() {
        PageStore x = toMove();
        CHECK.fine("move() from 0", () -> x.move(0, 0, 1, 0, 0));
        CHECK.fine("move() from 256", () -> x.move(0, 256, 1, 0, 0));
        for (int wrong : new int[] {-1, 257, LOW, HIGH}) {
            CHECK.index("move() of none from " + wrong, () -> x.move(0, wrong, 1, 0, 0));
        }
        CHECK.index("move() of 2 from -1", () -> x.move(0, -1, 1, 0, 2));
    }

    private static void moveFromUpTo() {
        PageStore x = toMove();
        for (int from : new int[] {0, 1, 128, 255, 256}) {
            int n = 256 - from;
            CHECK.fine("move() from " + from + " of " + n, () -> x.move(0, from, 1, 0, n));
            CHECK.index("move() from " + from + " of one more", () -> x.move(0, from, 1, 0, n + 1));
        }
    }

    private static void moveTo() {
        PageStore x = toMove();
        CHECK.fine("move() to 0", () -> x.move(0, 0, 1, 0, 0));
        CHECK.fine("move() to 256", () -> x.move(0, 0, 1, 256, 0));
        for (int wrong : new int[] {-1, 257, LOW, HIGH}) {
            CHECK.index("move() of none to " + wrong, () -> x.move(0, 0, 1, wrong, 0));
        }
        CHECK.index("move() of 2 to -1", () -> x.move(0, 0, 1, -1, 2));
    }

    private static void moveToUpTo() {
        PageStore x = toMove();
        for (int to : new int[] {0, 1, 128, 255, 256}) {
            int n = 256 - to;
            CHECK.fine("move() to " + to + " of " + n, () -> x.move(0, 0, 1, to, n));
            CHECK.index("move() to " + to + " of one more", () -> x.move(0, 0, 1, to, n + 1));
        }
    }

    private static void moveThatWraps() {
        PageStore x = toMove();
        for (int n : new int[] {HIGH, HIGH - 1, HIGH - 255}) {
            for (int at : new int[] {0, 1, 2, 255, 256}) {
                CHECK.index("move() from " + at + " of " + n, () -> x.move(0, at, 1, 0, n));
                CHECK.index("move() to " + at + " of " + n, () -> x.move(0, 0, 1, at, n));
            }
            CHECK.index("move() from high of " + n, () -> x.move(0, HIGH, 1, 0, n));
            CHECK.index("move() to high of " + n, () -> x.move(0, 0, 1, HIGH, n));
            CHECK.index("move() at high of " + n, () -> x.move(0, HIGH, 1, HIGH, n));
        }
        CHECK.index("move() from low of low", () -> x.move(0, LOW, 1, 0, LOW));
        CHECK.index("move() from high of 1", () -> x.move(0, HIGH, 1, 0, 1));
        CHECK.index("move() to high of 1", () -> x.move(0, 0, 1, HIGH, 1));
    }

    private static void moveFromNoPage() {
        PageStore x = toMove();
        for (int wrong : NO_PAGES) {
            CHECK.index("move() from page " + wrong, () -> x.move(wrong, 0, 1, 0, 1));
            CHECK.index("move() of none from page " + wrong, () -> x.move(wrong, 0, 1, 0, 0));
        }
    }

    private static void moveToNoPage() {
        PageStore x = toMove();
        for (int wrong : NO_PAGES) {
            CHECK.index("move() to page " + wrong, () -> x.move(0, 0, wrong, 0, 1));
            CHECK.index("move() of none to page " + wrong, () -> x.move(0, 0, wrong, 0, 0));
        }
        CHECK.index("move() of none within no page", () -> x.move(2, 0, 2, 0, 0));
    }

    private static long sumOf(int[] bytes) {
        long s = 7;
        for (int v : bytes) {
            s = s * 31 + v;
        }
        return s;
    }

    private static void sumOverBytes() {
        PageStore x = Stores.opened(2);
        int[] due = new int[PAGE];
        for (int i = 0; i < 200; i++) {
            due[i] = i * 7 % 100;
            x.put(1, i, due[i]);
        }
        CHECK.is("sum(1)", x.sum(1), sumOf(due));
        CHECK.is("sum(0) of zeros", x.sum(0), sumOf(new int[PAGE]));
        x.commit();
        CHECK.is("sum(1) if none is open", x.sum(1), sumOf(due));
    }

    private static void sumOverEach() {
        PageStore x = Stores.opened(1);
        for (int at : new int[] {0, 1, 128, 254, 255}) {
            int[] due = new int[PAGE];
            due[at] = 1;
            x.put(0, at, 1);
            CHECK.is("sum() with byte " + at, x.sum(0), sumOf(due));
            x.put(0, at, 0);
        }
    }

    private static void sumOfHighBytes() {
        PageStore x = Stores.opened(1);
        int[] due = new int[PAGE];
        due[254] = 128;
        due[255] = 255;
        x.put(0, 254, 128);
        x.put(0, 255, 255);
        CHECK.is("sum()", x.sum(0), sumOf(due));
    }

    /** As the document's own words reckon it: 7 times 31 to the 256th, modulo 2 to the 64th. */
    private static void sumWraps() {
        BigInteger due = BigInteger.valueOf(31).pow(PAGE).multiply(BigInteger.valueOf(7));
        CHECK.is("sum()", Stores.opened(1).sum(0), due.longValue());
    }

    private static void sumIfOff() {
        PageStore x = Stores.off(1);
        CHECK.state("sum(0)", () -> x.sum(0));
        CHECK.state("sum() of no page", () -> x.sum(1));
    }

    private static void sumOfNoPage() {
        PageStore x = Stores.lasting(2);
        for (int wrong : NO_PAGES) {
            CHECK.index("sum(" + wrong + ")", () -> x.sum(wrong));
        }
    }
}
