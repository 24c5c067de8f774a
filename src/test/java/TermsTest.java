/** What stands under 'Terms', a test for each sentence that calls can tell; RefusedTest has the last. */
public final class TermsTest {
    private static final int MARKS = 5;

    private static final Check CHECK = new Check();

    public static void main(String[] args) {
        pages();
        transactions();
        power();
        CHECK.sentence("Terms: PAGE = 256", () -> CHECK.is("PAGE", PageStore.PAGE, 256));
        CHECK.sentence("Terms: MOST = 768", () -> CHECK.is("MOST", PageStore.MOST, 768));
        CHECK.end();
    }

    private static void pages() {
        CHECK.sentence("Terms: PAGES 0, 1, ..", TermsTest::pagesFromZeroOn);
        CHECK.sentence("Terms: (at most 768)", TermsTest::atMostSoManyPages);
        CHECK.sentence("Terms: have 256 BYTES", TermsTest::eachPageHasItsBytes);
        CHECK.sentence("Terms: (0 to 255)", TermsTest::bytesAreWithinTheirBounds);
        CHECK.sentence("Terms: THEY ARE what was put", TermsTest::whatWasPut);
        CHECK.sentence("Terms: within a TRANSACTION that is open", TermsTest::changedInTransactionsAlone);
    }

    private static void transactions() {
        CHECK.sentence("Terms: begin opens it", TermsTest::beginOpens);
        CHECK.sentence("Terms: commit makes what was done in it lasting", TermsTest::commitMakesLasting);
        CHECK.sentence("Terms: rollback makes them what they were at begin", TermsTest::rollbackOfBytes);
        CHECK.sentence("Terms: (and how many there are)", TermsTest::rollbackOfHowMany);
        CHECK.sentence("Terms: MARKS 1, 2, ..", TermsTest::marksFromOneOn);
        CHECK.sentence("Terms: (at most 5)", TermsTest::atMostFiveMarks);
        CHECK.sentence("Terms: made within it", TermsTest::marksInTransactionsAlone);
        CHECK.sentence("Terms: back goes to what was at one of them", TermsTest::backToOne);
        CHECK.sentence("Terms: keep forgets them", TermsTest::keepForgets);
        CHECK.sentence("Terms: All MARKS are forgotten at the end of a TRANSACTION", TermsTest::marksEndWithIt);
    }

    private static void power() {
        CHECK.sentence("Terms: just what was written to the files lasts", TermsTest::whatIsInMemoryIsLost);
        CHECK.sentence("Terms: the store is OFF then, till reopen", TermsTest::offTillReopen);
        CHECK.sentence("Terms: PAGES are what the latest TRANSACTION that is lasting left", TermsTest::latestLasting);
        CHECK.sentence("Terms: none is open", TermsTest::noneIsOpenThen);
        CHECK.sentence("Terms: to empty the journal makes a TRANSACTION lasting", TermsTest::emptyingMakesLasting);
        CHECK.sentence("Terms: with ArithmeticException it is OFF then", TermsTest::offWithArithmeticException);
    }

    private static void pagesFromZeroOn() {
        PageStore x = Stores.opened(0);
        CHECK.index("get(0, 0) of none", () -> x.get(0, 0));
        CHECK.is("add()", x.add(), 0);
        CHECK.is("add() again", x.add(), 1);
        CHECK.is("get(0, 0)", x.get(0, 0), 0);
        CHECK.is("get(1, 0)", x.get(1, 0), 0);
        CHECK.index("get(2, 0)", () -> x.get(2, 0));
        CHECK.index("get(-1, 0)", () -> x.get(-1, 0));
    }

    private static void atMostSoManyPages() {
        PageStore x = Stores.opened(768);
        CHECK.is("pages()", x.pages(), 768);
        CHECK.state("add()", x::add);
        x.commit();
        CHECK.is("reopen()", x.reopen(), 768);
        CHECK.is("get() of the last", x.get(767, 255), 0);
        CHECK.index("get() of one more", () -> x.get(768, 0));
    }

    private static void eachPageHasItsBytes() {
        PageStore x = Stores.opened(2);
        for (int at = 0; at < 256; at++) {
            x.put(1, at, 255 - at);
        }
        x.commit();
        for (int at = 0; at < 256; at++) {
            CHECK.is("get(1, " + at + ")", x.get(1, at), 255 - at);
        }
        CHECK.index("get(0, 256)", () -> x.get(0, 256));
        CHECK.index("get(1, -1)", () -> x.get(1, -1));
    }

    private static void bytesAreWithinTheirBounds() {
        PageStore x = Stores.opened(1);
        for (int v : new int[] {0, 127, 128, 255}) {
            x.put(0, 5, v);
            CHECK.is("get() of " + v, x.get(0, 5), v);
            CHECK.is("put() over " + v, x.put(0, 5, v), v);
        }
        x.put(0, 5, 256);
        CHECK.is("get() of 256", x.get(0, 5), 0);
        x.put(0, 5, -1);
        CHECK.is("get() of -1", x.get(0, 5), 255);
    }

    private static void whatWasPut() {
        PageStore x = Stores.begun(2);
        x.put(0, 1, 11);
        CHECK.is("get(0, 1)", x.get(0, 1), 11);
        x.mark();
        x.put(0, 2, 12);
        CHECK.is("get(0, 1) behind a mark", x.get(0, 1), 11);
        CHECK.is("get(0, 2)", x.get(0, 2), 12);
        x.put(0, 1, 13);
        CHECK.is("get(0, 1) put again", x.get(0, 1), 13);
        CHECK.is("get(1, 1)", x.get(1, 1), 0);
    }

    private static void changedInTransactionsAlone() {
        PageStore x = Stores.lasting(1);
        String before = Stores.seen(x);
        CHECK.state("add()", x::add);
        CHECK.state("put()", () -> x.put(0, 0, 1));
        CHECK.state("move()", () -> x.move(0, 0, 0, 1, 1));
        CHECK.same("what is seen", Stores.seen(x), before);
    }

    private static void beginOpens() {
        PageStore x = Stores.lasting(1);
        CHECK.is("told(1) before", x.told(1), 0);
        x.begin();
        CHECK.is("told(1) behind", x.told(1), 1);
        CHECK.is("put()", x.put(0, 0, 1), 0);
    }

    private static void commitMakesLasting() {
        PageStore x = Stores.begun(1);
        x.put(0, 0, 1);
        x.add();
        x.commit();
        x.begin();
        x.put(0, 0, 2);
        x.rollback();
        CHECK.is("get(0, 0) behind a rollback of another", x.get(0, 0), 1);
        Stores.failReopen(x);
        x.reopen();
        CHECK.is("get(0, 0) behind power", x.get(0, 0), 1);
        CHECK.is("pages() behind power", x.pages(), 2);
    }

    private static void rollbackOfBytes() {
        PageStore x = Stores.opened(2);
        x.put(1, 255, 9);
        x.commit();
        String before = Stores.pages(x);
        x.begin();
        x.put(1, 255, 1);
        x.put(0, 0, 2);
        x.rollback();
        CHECK.same("pages", Stores.pages(x), before);
    }

    private static void rollbackOfHowMany() {
        for (int pages : new int[] {0, 1, 5}) {
            PageStore x = Stores.begun(pages);
            x.add();
            x.mark();
            x.add();
            x.rollback();
            CHECK.is("pages()", x.pages(), pages);
        }
    }

    private static void marksFromOneOn() {
        PageStore x = Stores.opened(1);
        CHECK.is("mark()", x.mark(), 1);
        CHECK.is("mark() again", x.mark(), 2);
        CHECK.index("back(0)", () -> x.back(0));
        CHECK.index("back(3)", () -> x.back(3));
        CHECK.fine("back(2)", () -> x.back(2));
        CHECK.fine("back(1)", () -> x.back(1));
    }

    private static void atMostFiveMarks() {
        PageStore x = Stores.opened(1);
        for (int m = 1; m <= MARKS; m++) {
            CHECK.is("mark()", x.mark(), m);
        }
        CHECK.state("mark() of a sixth", x::mark);
        CHECK.is("told(2)", x.told(2), MARKS);
    }

    private static void marksInTransactionsAlone() {
        PageStore x = Stores.lasting(1);
        CHECK.state("mark()", x::mark);
        x.begin();
        CHECK.is("mark() in one", x.mark(), 1);
    }

    private static void backToOne() {
        PageStore x = Stores.marked();
        x.back(3);
        CHECK.is("get(0, 0)", x.get(0, 0), 3);
        CHECK.is("pages()", x.pages(), 4);
    }

    private static void keepForgets() {
        PageStore x = Stores.marked();
        x.keep(3);
        CHECK.is("told(2)", x.told(2), 2);
        CHECK.is("get(0, 0)", x.get(0, 0), 99);
        CHECK.index("back(3)", () -> x.back(3));
    }

    private static void marksEndWithIt() {
        PageStore x = Stores.marked();
        x.commit();
        noMarks(x, "commit");
        PageStore y = Stores.marked();
        y.rollback();
        noMarks(y, "rollback");
        PageStore z = Stores.marked();
        z.reopen();
        noMarks(z, "reopen");
        PageStore failed = Stores.marked();
        Stores.failCommit(failed);
        CHECK.is("told(2) if commit failed", failed.told(2), 0);
        failed.reopen();
        noMarks(failed, "a commit that failed");
        PageStore off = Stores.marked();
        Stores.failReopen(off);
        CHECK.is("told(2) if reopen failed", off.told(2), 0);
        off.reopen();
        noMarks(off, "a reopen that failed");
    }

    private static void noMarks(PageStore x, String end) {
        CHECK.is("told(2) behind " + end, x.told(2), 0);
        x.begin();
        CHECK.is("told(2) in the next one, behind " + end, x.told(2), 0);
        for (int m = 1; m <= MARKS; m++) {
            int forgotten = m;
            CHECK.index("back(" + m + ") behind " + end, () -> x.back(forgotten));
        }
        for (int m = 1; m <= MARKS; m++) {
            CHECK.is("mark() behind " + end, x.mark(), m);
        }
    }

    private static void whatIsInMemoryIsLost() {
        PageStore x = Stores.marked();
        Stores.failReopen(x);
        x.reopen();
        CHECK.same("pages if power failed in a transaction", Stores.pages(x), Stores.pages(Stores.lasting(2)));
    }

    private static void offTillReopen() {
        PageStore x = Stores.marked();
        Stores.failCommit(x);
        allAreRefused(x);
        x.power(4, 0, 0);
        allAreRefused(x);
        Stores.failReopen(x);
        allAreRefused(x);
        x.reopen();
        CHECK.is("told(0) behind reopen", x.told(0), 1);
        CHECK.is("pages() behind reopen", x.pages(), 2);
        CHECK.fine("begin() behind reopen", x::begin);
    }

    private static void allAreRefused(PageStore x) {
        CHECK.is("told(0)", x.told(0), 0);
        CHECK.state("pages()", x::pages);
        CHECK.state("add()", x::add);
        CHECK.state("get()", () -> x.get(0, 0));
        CHECK.state("put()", () -> x.put(0, 0, 1));
        CHECK.state("move()", () -> x.move(0, 0, 1, 0, 1));
        CHECK.state("sum()", () -> x.sum(0));
        CHECK.state("begin()", x::begin);
        CHECK.state("commit()", x::commit);
        CHECK.state("rollback()", x::rollback);
        CHECK.state("mark()", x::mark);
        CHECK.state("back()", () -> x.back(1));
        CHECK.state("keep()", () -> x.keep(1));
    }

    private static void latestLasting() {
        PageStore x = Stores.lasting(1);
        for (int i = 1; i <= 5; i++) {
            x.begin();
            x.put(0, 0, i);
            x.add();
            x.commit();
            String lasting = Stores.pages(x);
            for (int when = 0; when <= 2; when++) {
                x.begin();
                x.put(0, 0, 99);
                x.put(i, 0, 99);
                x.add();
                x.power(when, 0, 77);
                CHECK.power("commit()", x::commit);
                x.reopen();
                CHECK.same("pages", Stores.pages(x), lasting);
            }
        }
    }

    private static void noneIsOpenThen() {
        PageStore x = Stores.marked();
        Stores.failCommit(x);
        CHECK.is("told(1) if commit failed", x.told(1), 0);
        x.reopen();
        CHECK.is("told(1) behind reopen", x.told(1), 0);
        CHECK.state("rollback()", x::rollback);
        PageStore y = Stores.marked();
        Stores.failReopen(y);
        CHECK.is("told(1) if reopen failed", y.told(1), 0);
        y.reopen();
        CHECK.state("put()", () -> y.put(0, 0, 1));
    }

    /** All of it or nothing of it, and nothing between: it is done at once. */
    private static void emptyingMakesLasting() {
        for (int k = 0; k <= 1; k++) {
            PageStore x = Stores.marked();
            String done = Stores.pages(x);
            x.power(2, k, 0);
            CHECK.power("commit()", x::commit);
            x.reopen();
            CHECK.same("pages", Stores.pages(x), k == 1 ? done : Stores.pages(Stores.lasting(2)));
            CHECK.is("told(3)", x.told(3), 1 + k);
        }
    }

    private static void offWithArithmeticException() {
        for (int when = 0; when <= 2; when++) {
            PageStore x = Stores.marked();
            x.power(when, 1, 1);
            CHECK.power("commit(), when " + when, x::commit);
            CHECK.is("told(0), when " + when, x.told(0), 0);
        }
        PageStore y = Stores.marked();
        y.power(3, 1, 1);
        CHECK.power("reopen(), when 3", y::reopen);
        CHECK.is("told(0), when 3", y.told(0), 0);
    }
}
