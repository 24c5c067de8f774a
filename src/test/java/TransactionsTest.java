/** Promises 8 to 13, a test for each of their sentences: transactions, and marks within them. */
public final class TransactionsTest {
    private static final int LOW = Integer.MIN_VALUE;
    private static final int HIGH = Integer.MAX_VALUE;
    private static final int MARKS = 5;

    private static final Check CHECK = new Check();

    public static void main(String[] args) {
        begin();
        commit();
        rollback();
        mark();
        back();
        keep();
        CHECK.end();
    }

    private static void begin() {
        CHECK.sentence("8: A TRANSACTION is open", TransactionsTest::beginOpens);
        CHECK.sentence("8: without MARKS", TransactionsTest::beginWithoutMarks);
        CHECK.sentence("8: IllegalStateException if it is OFF", TransactionsTest::beginIfOff);
        CHECK.sentence("8: or one is open", TransactionsTest::beginIfOneIsOpen);
    }

    private static void commit() {
        CHECK.sentence("9: What was done in the TRANSACTION is lasting", TransactionsTest::commitLasts);
        CHECK.sentence("9: also if nothing was done", TransactionsTest::commitOfNothing);
        CHECK.sentence("9: none is open then", TransactionsTest::commitLeavesNoneOpen);
        CHECK.sentence("9: IllegalStateException if it is OFF", TransactionsTest::commitIfOff);
        CHECK.sentence("9: or none is open", TransactionsTest::commitIfNoneIsOpen);
        CHECK.sentence("9: ArithmeticException if power failed (it is OFF then)", TransactionsTest::commitAsPowerFails);
        CHECK.sentence("9: as power told, whatever is written", TransactionsTest::commitFailsWhateverIsWritten);
    }

    private static void rollback() {
        CHECK.sentence("10: PAGES are what they were at begin", TransactionsTest::rollbackToBegin);
        CHECK.sentence("10: also if there were none", TransactionsTest::rollbackToNoPages);
        CHECK.sentence("10: also if marks were made", TransactionsTest::rollbackUnderMarks);
        CHECK.sentence("10: none is open then", TransactionsTest::rollbackLeavesNoneOpen);
        CHECK.sentence("10: IllegalStateException if it is OFF", TransactionsTest::rollbackIfOff);
        CHECK.sentence("10: or none is open", TransactionsTest::rollbackIfNoneIsOpen);
    }

    private static void mark() {
        CHECK.sentence("11: A new MARK at what is now", TransactionsTest::markAtWhatIsNow);
        CHECK.sentence("11: one more than how many there are", TransactionsTest::markAnswersItsNumber);
        CHECK.sentence("11: IllegalStateException as by rollback, if it is OFF", TransactionsTest::markIfOff);
        CHECK.sentence("11: IllegalStateException as by rollback, if none is open", TransactionsTest::markIfNoneIsOpen);
        CHECK.sentence("11: or if there are 5", TransactionsTest::markIfThereAreFive);
    }

    private static void back() {
        CHECK.sentence("12: PAGES are what they were when MARK m was made", TransactionsTest::backToEachMark);
        CHECK.sentence("12: it stays", TransactionsTest::backAgainAndAgain);
        CHECK.sentence("12: those behind it are forgotten", TransactionsTest::backForgetsThoseBehind);
        CHECK.sentence("12: those before it are not", TransactionsTest::backLeavesThoseBefore);
        CHECK.sentence("12: IllegalStateException as by rollback, if it is OFF", TransactionsTest::backIfOff);
        CHECK.sentence("12: IllegalStateException as by rollback, if none is open", TransactionsTest::backIfNoneIsOpen);
        CHECK.sentence("12: then IndexOutOfBoundsException if there is no MARK m", TransactionsTest::backToNoMark);
    }

    private static void keep() {
        CHECK.sentence("13: MARK m and those behind it are forgotten", TransactionsTest::keepForgets);
        CHECK.sentence("13: those before it are not", TransactionsTest::keepLeavesThoseBefore);
        CHECK.sentence("13: what was done since stays", TransactionsTest::keepLeavesWhatWasDone);
        CHECK.sentence("13: and lasts", TransactionsTest::keepThenCommit);
        CHECK.sentence("13: but goes with a mark before it", TransactionsTest::keepThenBack);
        CHECK.sentence("13: Thrown as by back, if it is OFF", TransactionsTest::keepIfOff);
        CHECK.sentence("13: Thrown as by back, if none is open", TransactionsTest::keepIfNoneIsOpen);
        CHECK.sentence("13: Thrown as by back, if there is no MARK m", TransactionsTest::keepOfNoMark);
    }

    private static void beginOpens() {
        PageStore x = new PageStore();
        CHECK.fine("begin()", x::begin);
        CHECK.is("told(1)", x.told(1), 1);
        CHECK.is("add()", x.add(), 0);
        x.commit();
        CHECK.fine("begin() behind commit", x::begin);
        CHECK.is("told(1) behind commit", x.told(1), 1);
        x.rollback();
        CHECK.fine("begin() behind rollback", x::begin);
        x.reopen();
        CHECK.fine("begin() behind reopen", x::begin);
    }

    private static void beginWithoutMarks() {
        PageStore x = new PageStore();
        x.begin();
        CHECK.is("told(2)", x.told(2), 0);
        CHECK.index("back(1)", () -> x.back(1));
        x.mark();
        x.mark();
        x.rollback();
        x.begin();
        CHECK.is("told(2) behind another", x.told(2), 0);
        CHECK.index("keep(1) behind another", () -> x.keep(1));
        CHECK.is("mark() behind another", x.mark(), 1);
    }

    private static void beginIfOff() {
        PageStore x = Stores.off(1);
        CHECK.state("begin()", x::begin);
        x.reopen();
        CHECK.is("told(1) behind reopen", x.told(1), 0);
        CHECK.fine("begin() behind reopen", x::begin);
    }

    private static void beginIfOneIsOpen() {
        PageStore x = Stores.marked();
        String before = Stores.seen(x);
        CHECK.state("begin()", x::begin);
        CHECK.same("what is seen", Stores.seen(x), before);
        x.rollback();
        CHECK.same("pages at begin", Stores.pages(x), Stores.pages(Stores.lasting(2)));
    }

    private static void commitLasts() {
        PageStore x = Stores.opened(1);
        x.put(0, 0, 5);
        x.mark();
        x.put(0, 255, 6);
        x.mark();
        x.add();
        x.move(0, 0, 1, 1, 1);
        String done = Stores.pages(x);
        CHECK.fine("commit()", x::commit);
        CHECK.same("pages", Stores.pages(x), done);
        CHECK.is("reopen()", x.reopen(), 2);
        CHECK.same("pages behind reopen", Stores.pages(x), done);
        CHECK.is("told(3)", x.told(3), 1);
    }

    private static void commitOfNothing() {
        PageStore x = new PageStore();
        x.begin();
        CHECK.fine("commit() of no pages", x::commit);
        CHECK.is("told(3)", x.told(3), 1);
        CHECK.is("reopen()", x.reopen(), 0);
        PageStore y = Stores.begun(2);
        String before = Stores.pages(y);
        CHECK.fine("commit() of pages as they were", y::commit);
        CHECK.is("told(3)", y.told(3), 2);
        y.reopen();
        CHECK.same("pages behind reopen", Stores.pages(y), before);
    }

    private static void commitLeavesNoneOpen() {
        PageStore x = Stores.marked();
        x.commit();
        CHECK.is("told(1)", x.told(1), 0);
        CHECK.is("told(2)", x.told(2), 0);
        CHECK.state("put()", () -> x.put(0, 0, 1));
        CHECK.state("commit() again", x::commit);
        PageStore y = Stores.marked();
        Stores.failCommit(y);
        y.reopen();
        CHECK.is("told(1) as power failed", y.told(1), 0);
        CHECK.state("commit() as power failed", y::commit);
    }

    private static void commitIfOff() {
        PageStore x = Stores.off(1);
        CHECK.state("commit()", x::commit);
        x.power(2, 0, 0);
        CHECK.state("commit() as power is to fail", x::commit);
        CHECK.is("told(3)", x.told(3), 1);
    }

    private static void commitIfNoneIsOpen() {
        PageStore x = new PageStore();
        CHECK.state("commit() of a new object", x::commit);
        CHECK.is("told(3)", x.told(3), 0);
        x.power(2, 0, 0);
        CHECK.state("commit() as power is to fail", x::commit);
        CHECK.is("told(0)", x.told(0), 1);
    }

    private static void commitAsPowerFails() {
        for (int when = 0; when <= 2; when++) {
            PageStore x = Stores.marked();
            x.power(when, 0, 0);
            CHECK.power("commit(), when " + when, x::commit);
            CHECK.is("told(0)", x.told(0), 0);
            CHECK.is("told(1)", x.told(1), 0);
            CHECK.is("told(2)", x.told(2), 0);
            CHECK.is("told(3)", x.told(3), 1);
            CHECK.state("pages()", x::pages);
            CHECK.is("reopen()", x.reopen(), 2);
        }
    }

    private static void commitFailsWhateverIsWritten() {
        for (int when = 0; when <= 2; when++) {
            for (int k : new int[] {0, 1, 2, 3, 1000}) {
                for (int b : new int[] {0, 1, 256, 300}) {
                    for (int kind = 0; kind < 5; kind++) {
                        PageStore x = Stores.begun(2);
                        write(x, kind);
                        x.power(when, k, b);
                        String what = "kind " + kind + ", power(" + when + ", " + k + ", " + b + ")";
                        CHECK.power(what + ", commit()", x::commit);
                        CHECK.is(what + ", told(0)", x.told(0), 0);
                    }
                }
            }
        }
    }

    private static void write(PageStore x, int kind) {
        if (kind == 1 || kind == 3) {
            x.put(1, 0, 1);
        }
        if (kind == 2 || kind == 3) {
            x.add();
        }
        if (kind == 4) {
            x.mark();
            x.put(0, 0, 1);
            x.back(1);
        }
    }

    private static void rollbackToBegin() {
        PageStore x = Stores.opened(2);
        x.put(0, 0, 1);
        x.put(1, 255, 2);
        x.commit();
        String before = Stores.pages(x);
        x.begin();
        CHECK.fine("rollback() of nothing", x::rollback);
        CHECK.same("pages", Stores.pages(x), before);
        x.begin();
        x.put(0, 0, 3);
        x.move(0, 0, 1, 255, 1);
        x.add();
        CHECK.fine("rollback()", x::rollback);
        CHECK.same("pages", Stores.pages(x), before);
        CHECK.index("get() of the page that was added", () -> x.get(2, 0));
        x.reopen();
        CHECK.same("pages behind reopen", Stores.pages(x), before);
        CHECK.is("told(3)", x.told(3), 1);
    }

    private static void rollbackToNoPages() {
        PageStore x = Stores.opened(3);
        x.rollback();
        CHECK.is("pages()", x.pages(), 0);
        CHECK.index("get(0, 0)", () -> x.get(0, 0));
        x.begin();
        CHECK.is("add()", x.add(), 0);
    }

    private static void rollbackUnderMarks() {
        PageStore x = Stores.marked();
        x.rollback();
        CHECK.same("pages", Stores.pages(x), Stores.pages(Stores.lasting(2)));
        PageStore y = Stores.marked();
        y.keep(2);
        y.rollback();
        CHECK.same("pages, some kept", Stores.pages(y), Stores.pages(Stores.lasting(2)));
        PageStore z = Stores.marked();
        z.back(1);
        z.rollback();
        CHECK.same("pages behind back", Stores.pages(z), Stores.pages(Stores.lasting(2)));
    }

    private static void rollbackLeavesNoneOpen() {
        PageStore x = Stores.marked();
        x.rollback();
        CHECK.is("told(1)", x.told(1), 0);
        CHECK.is("told(2)", x.told(2), 0);
        CHECK.state("rollback() again", x::rollback);
        CHECK.state("put()", () -> x.put(0, 0, 1));
    }

    private static void rollbackIfOff() {
        CHECK.state("rollback()", Stores.off(1)::rollback);
        PageStore x = Stores.marked();
        Stores.failCommit(x);
        CHECK.state("rollback() behind a commit that failed", x::rollback);
    }

    private static void rollbackIfNoneIsOpen() {
        CHECK.state("rollback() of a new object", new PageStore()::rollback);
        CHECK.state("rollback() behind commit", Stores.lasting(1)::rollback);
    }

    /** Not at what was at begin, nor at an earlier mark: bytes and pages as they are right now. */
    private static void markAtWhatIsNow() {
        PageStore x = Stores.begun(1);
        x.put(0, 0, 1);
        x.mark();
        x.put(0, 0, 2);
        x.add();
        String now = Stores.pages(x);
        x.mark();
        CHECK.same("pages right behind it", Stores.pages(x), now);
        x.put(0, 0, 3);
        x.put(1, 0, 3);
        x.add();
        x.back(2);
        CHECK.same("pages", Stores.pages(x), now);
    }

    private static void markAnswersItsNumber() {
        PageStore x = Stores.opened(1);
        for (int m = 1; m <= MARKS; m++) {
            CHECK.is("mark()", x.mark(), m);
            CHECK.is("told(2)", x.told(2), m);
        }
        x.back(3);
        CHECK.is("mark() behind back(3)", x.mark(), 4);
        x.keep(2);
        CHECK.is("mark() behind keep(2)", x.mark(), 2);
        x.keep(1);
        CHECK.is("mark() behind keep(1)", x.mark(), 1);
        x.back(1);
        CHECK.is("mark() behind back(1)", x.mark(), 2);
        x.commit();
        x.begin();
        CHECK.is("mark() in the next one", x.mark(), 1);
    }

    private static void markIfOff() {
        CHECK.state("mark()", Stores.off(1)::mark);
    }

    private static void markIfNoneIsOpen() {
        CHECK.state("mark() of a new object", new PageStore()::mark);
        CHECK.state("mark() behind commit", Stores.lasting(1)::mark);
    }

    private static void markIfThereAreFive() {
        PageStore x = Stores.marked();
        String before = Stores.seen(x);
        CHECK.state("mark()", x::mark);
        CHECK.state("mark() again", x::mark);
        CHECK.same("what is seen", Stores.seen(x), before);
        x.keep(5);
        CHECK.is("mark() if the fifth is forgotten", x.mark(), 5);
        x.back(4);
        CHECK.is("mark() behind back(4)", x.mark(), 5);
        CHECK.state("mark() if there are five again", x::mark);
    }

    private static void backToEachMark() {
        for (int m = 1; m <= MARKS; m++) {
            PageStore x = Stores.marked();
            x.back(m);
            atMark(x, m, "back(" + m + ")");
        }
        PageStore y = Stores.marked();
        y.rollback();
        y.begin();
        y.put(1, 7, 7);
        String now = Stores.pages(y);
        y.mark();
        y.back(1);
        CHECK.same("pages as nothing was done since", Stores.pages(y), now);
    }

    private static void atMark(PageStore x, int m, String what) {
        CHECK.is(what + ": get(0, 0)", x.get(0, 0), m);
        CHECK.is(what + ": get(1, 0)", x.get(1, 0), 0);
        CHECK.is(what + ": pages()", x.pages(), m + 1);
        CHECK.is(what + ": told(2)", x.told(2), m);
    }

    private static void backAgainAndAgain() {
        for (int m = 1; m <= MARKS; m++) {
            PageStore x = Stores.marked();
            for (int i = 0; i < 3; i++) {
                x.back(m);
                atMark(x, m, "back(" + m + ") again");
                x.put(0, 0, 77);
                x.put(1, 0, 77);
                x.add();
            }
        }
    }

    private static void backForgetsThoseBehind() {
        for (int m = 1; m < MARKS; m++) {
            PageStore x = Stores.marked();
            x.back(m);
            for (int behind = m + 1; behind <= MARKS; behind++) {
                int forgotten = behind;
                CHECK.index("back(" + forgotten + ")", () -> x.back(forgotten));
                CHECK.index("keep(" + forgotten + ")", () -> x.keep(forgotten));
            }
            x.put(0, 0, 77);
            CHECK.is("mark()", x.mark(), m + 1);
            x.put(0, 0, 78);
            x.back(m + 1);
            CHECK.is("get(0, 0) at the new mark", x.get(0, 0), 77);
            CHECK.is("pages() at the new mark", x.pages(), m + 1);
        }
    }

    private static void backLeavesThoseBefore() {
        PageStore x = Stores.marked();
        for (int m = MARKS; m >= 1; m--) {
            x.back(m);
            atMark(x, m, "back(" + m + ") in a row");
        }
        x.commit();
        CHECK.is("get(0, 0) behind commit", x.get(0, 0), 1);
        CHECK.is("reopen()", x.reopen(), 2);
    }

    private static void backIfOff() {
        PageStore x = Stores.off(1);
        CHECK.state("back(1)", () -> x.back(1));
        CHECK.state("back(0)", () -> x.back(0));
    }

    private static void backIfNoneIsOpen() {
        PageStore x = Stores.marked();
        x.commit();
        CHECK.state("back(1)", () -> x.back(1));
        CHECK.state("back(0)", () -> x.back(0));
        CHECK.state("back(6)", () -> x.back(6));
    }

    private static void backToNoMark() {
        PageStore x = Stores.opened(1);
        CHECK.index("back(1) if there is none", () -> x.back(1));
        CHECK.index("back(0) if there is none", () -> x.back(0));
        x.mark();
        x.mark();
        for (int wrong : new int[] {0, 3, 5, 6, -1, LOW, HIGH}) {
            CHECK.index("back(" + wrong + ") if there are two", () -> x.back(wrong));
        }
        CHECK.fine("back(2)", () -> x.back(2));
        PageStore y = Stores.marked();
        CHECK.index("back(6) if there are five", () -> y.back(6));
        CHECK.fine("back(5)", () -> y.back(5));
    }

    private static void keepForgets() {
        for (int m = 1; m <= MARKS; m++) {
            PageStore x = Stores.marked();
            x.keep(m);
            CHECK.is("told(2) behind keep(" + m + ")", x.told(2), m - 1);
            for (int i = m; i <= MARKS; i++) {
                int forgotten = i;
                CHECK.index("back(" + forgotten + ")", () -> x.back(forgotten));
                CHECK.index("keep(" + forgotten + ")", () -> x.keep(forgotten));
            }
        }
    }

    private static void keepLeavesThoseBefore() {
        for (int m = 2; m <= MARKS; m++) {
            for (int before = 1; before < m; before++) {
                PageStore x = Stores.marked();
                x.keep(m);
                x.back(before);
                atMark(x, before, "keep(" + m + "), back(" + before + ")");
            }
        }
    }

    private static void keepLeavesWhatWasDone() {
        for (int m = 1; m <= MARKS; m++) {
            PageStore x = Stores.marked();
            String done = Stores.pages(x);
            x.keep(m);
            CHECK.same("pages behind keep(" + m + ")", Stores.pages(x), done);
        }
        PageStore y = Stores.begun(1);
        y.put(0, 0, 1);
        y.mark();
        y.keep(1);
        CHECK.is("get(0, 0) as nothing was done since", y.get(0, 0), 1);
    }

    private static void keepThenCommit() {
        for (int m = 1; m <= MARKS; m++) {
            PageStore x = Stores.marked();
            String done = Stores.pages(x);
            x.keep(m);
            x.commit();
            x.reopen();
            CHECK.same("pages behind keep(" + m + ") and reopen", Stores.pages(x), done);
        }
    }

    private static void keepThenBack() {
        PageStore x = Stores.begun(3);
        x.put(0, 0, 1);
        x.mark();
        x.put(1, 0, 2);
        x.mark();
        x.put(0, 0, 3);
        x.put(2, 0, 3);
        x.add();
        x.mark();
        x.put(1, 0, 4);
        x.keep(2);
        x.put(2, 0, 5);
        x.mark();
        x.put(0, 0, 6);
        x.back(2);
        CHECK.is("get(0, 0) at a mark behind keep", x.get(0, 0), 3);
        CHECK.is("get(2, 0) at a mark behind keep", x.get(2, 0), 5);
        x.back(1);
        CHECK.is("get(0, 0) at a mark before keep", x.get(0, 0), 1);
        CHECK.is("get(1, 0) at a mark before keep", x.get(1, 0), 0);
        CHECK.is("get(2, 0) at a mark before keep", x.get(2, 0), 0);
        CHECK.is("pages() at a mark before keep", x.pages(), 3);
    }

    private static void keepIfOff() {
        PageStore x = Stores.off(1);
        CHECK.state("keep(1)", () -> x.keep(1));
        CHECK.state("keep(0)", () -> x.keep(0));
    }

    private static void keepIfNoneIsOpen() {
        PageStore x = Stores.marked();
        x.commit();
        CHECK.state("keep(1)", () -> x.keep(1));
        CHECK.state("keep(0)", () -> x.keep(0));
        CHECK.state("keep(6)", () -> x.keep(6));
    }

    private static void keepOfNoMark() {
        PageStore x = Stores.opened(1);
        CHECK.index("keep(1) if there is none", () -> x.keep(1));
        CHECK.index("keep(0) if there is none", () -> x.keep(0));
        x.mark();
        x.mark();
        for (int wrong : new int[] {0, 3, 5, 6, -1, LOW, HIGH}) {
            CHECK.index("keep(" + wrong + ") if there are two", () -> x.keep(wrong));
        }
        CHECK.fine("keep(2)", () -> x.keep(2));
        PageStore y = Stores.marked();
        CHECK.index("keep(6) if there are five", () -> y.keep(6));
        CHECK.fine("keep(5)", () -> y.keep(5));
    }
}
