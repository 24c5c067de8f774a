/**
 * Promises 14 to 16, a test for each of their sentences that calls can tell: what is said by power,
 * reopen, and what is told. Where in a write power fails no call can tell: see CutTest.
 */
public final class SaidTest {
    private static final int LOW = Integer.MIN_VALUE;
    private static final int HIGH = Integer.MAX_VALUE;

    private static final Check CHECK = new Check();

    public static void main(String[] args) {
        said();
        where();
        refused();
        reopen();
        told();
        CHECK.end();
    }

    private static void said() {
        CHECK.sentence("14: Power fails once from now on", SaidTest::failsOnce);
        CHECK.sentence("14: what was said before is forgotten", SaidTest::saidBeforeIsForgotten);
        CHECK.sentence("14: also while it is OFF", SaidTest::saidWhileOff);
        CHECK.sentence("14: it stays said till the next commit", SaidTest::staysSaidTillCommit);
        CHECK.sentence("14: or reopen", SaidTest::staysSaidTillReopen);
        CHECK.sentence("14: and no longer than the next commit", SaidTest::commitEndsIt);
        CHECK.sentence("14: and no longer than the next reopen", SaidTest::reopenEndsIt);
        CHECK.sentence("14: the next commit is none that is refused", SaidTest::refusedCommitDoesNotEndIt);
    }

    private static void where() {
        CHECK.sentence("14: 0: in the next commit, not in a reopen", () -> notInReopen(0));
        CHECK.sentence("14: 1: in the next commit, not in a reopen", () -> notInReopen(1));
        CHECK.sentence("14: 2: in the next commit, not in a reopen", () -> notInReopen(2));
        CHECK.sentence("14: 0: if there are fewer of them", () -> fewerWrites(0));
        CHECK.sentence("14: 1: if there are fewer of them", () -> fewerWrites(1));
        CHECK.sentence("14: 0: or nothing changed", () -> nothingChanged(0));
        CHECK.sentence("14: 1: or nothing changed", () -> nothingChanged(1));
        CHECK.sentence("14: 2: right before the journal is emptied if k is 0", SaidTest::beforeEmptying);
        CHECK.sentence("14: 2: else right behind it (it is lasting then)", SaidTest::behindEmptying);
        CHECK.sentence("14: 3: in the next reopen, not in a commit", SaidTest::notInCommit);
        CHECK.sentence("14: 3: if there are fewer, before it is done", SaidTest::fewerUndone);
        CHECK.sentence("14: 3: none, too", SaidTest::noneUndone);
        CHECK.sentence("14: 4: not at all", SaidTest::notAtAll);
    }

    private static void refused() {
        CHECK.sentence("14: IllegalArgumentException if when is not 0 to 4", SaidTest::wrongWhen);
        CHECK.sentence("14: k not 0 to 1000", SaidTest::wrongK);
        CHECK.sentence("14: b not 0 to 300", SaidTest::wrongB);
        CHECK.sentence("14: what is refused is not said", SaidTest::refusedIsNotSaid);
    }

    private static void reopen() {
        CHECK.sentence("15: Power goes off, if it is on", SaidTest::reopenIfOn);
        CHECK.sentence("15: and on", SaidTest::reopenIfOff);
        CHECK.sentence("15: what is lasting is there", SaidTest::reopenHasWhatIsLasting);
        CHECK.sentence("15: what was said by power is forgotten", SaidTest::reopenForgetsWhatWasSaid);
        CHECK.sentence("15: how many PAGES", SaidTest::reopenAnswersPages);
        CHECK.sentence("15: ArithmeticException if power fails in that: it is OFF then", SaidTest::reopenAsPowerFails);
    }

    private static void told() {
        CHECK.sentence("16: 0: 1 if it is on, 0 if OFF", SaidTest::toldOn);
        CHECK.sentence("16: 1: 1 if a TRANSACTION is open", SaidTest::toldOpen);
        CHECK.sentence("16: 2: MARKS", SaidTest::toldMarks);
        CHECK.sentence("16: 3: TRANSACTIONS that were made lasting", SaidTest::toldLasting);
        CHECK.sentence("16: 3: since it is there", SaidTest::toldLastingBehindReopen);
        CHECK.sentence("16: 3: also one behind which power failed", SaidTest::toldLastingAsPowerFailed);
        CHECK.sentence("16: 1 and 2 are 0 if it is OFF", SaidTest::toldIfOff);
        CHECK.sentence("16: IllegalArgumentException for others", SaidTest::toldOthers);
    }

    /** A lasting page, and a transaction that changes it and adds another. */
    private static PageStore changed() {
        PageStore x = Stores.begun(1);
        change(x);
        return x;
    }

    private static void change(PageStore x) {
        x.put(0, 3, 3);
        x.add();
    }

    private static void undone(PageStore x, String what) {
        CHECK.is(what + ", told(3)", x.told(3), 1);
        CHECK.is(what + ", reopen()", x.reopen(), 1);
        CHECK.is(what + ", get(0, 3)", x.get(0, 3), 0);
    }

    private static String say(int when, int k, int b) {
        return "power(" + when + ", " + k + ", " + b + ")";
    }

    private static void failsOnce() {
        for (int when = 0; when <= 2; when++) {
            PageStore x = changed();
            x.power(when, 0, 0);
            CHECK.power("commit(), when " + when, x::commit);
            CHECK.fine("reopen() then", x::reopen);
            x.begin();
            change(x);
            CHECK.fine("commit() then", x::commit);
            CHECK.fine("reopen() at the end", x::reopen);
        }
        PageStore y = changed();
        y.power(3, 0, 0);
        CHECK.power("reopen(), when 3", y::reopen);
        CHECK.fine("reopen() again", y::reopen);
        y.begin();
        CHECK.fine("commit() then", y::commit);
    }

    private static void saidBeforeIsForgotten() {
        for (int when = 0; when <= 2; when++) {
            PageStore x = changed();
            x.power(when, 0, 0);
            x.power(3, 0, 0);
            CHECK.fine("commit(), when " + when + ", then 3", x::commit);
            PageStore y = changed();
            y.power(3, 0, 0);
            y.power(when, 0, 0);
            CHECK.fine("reopen(), when 3, then " + when, y::reopen);
            PageStore z = changed();
            z.power(when, 0, 0);
            z.power(2, 1, 0);
            CHECK.power("commit(), when " + when + ", then behind emptying", z::commit);
            CHECK.is("told(3)", z.told(3), 2);
        }
        PageStore twice = changed();
        twice.power(3, 0, 0);
        twice.power(3, 0, 0);
        CHECK.power("reopen(), when 3 said twice", twice::reopen);
        CHECK.fine("reopen() again", twice::reopen);
    }

    private static void saidWhileOff() {
        PageStore x = Stores.off(1);
        CHECK.fine("power(3, 0, 0)", () -> x.power(3, 0, 0));
        CHECK.is("told(0)", x.told(0), 0);
        CHECK.power("reopen()", x::reopen);
        x.power(3, 0, 0);
        CHECK.fine("power(4, 0, 0)", () -> x.power(4, 0, 0));
        CHECK.fine("reopen(), what was said is forgotten", x::reopen);
    }

    private static void staysSaidTillCommit() {
        for (int when = 0; when <= 2; when++) {
            PageStore x = Stores.lasting(1);
            x.power(when, 0, 0);
            callAllThatEndNothing(x);
            x.begin();
            CHECK.power("commit(), when " + when, x::commit);
        }
    }

    private static void staysSaidTillReopen() {
        PageStore x = Stores.lasting(1);
        x.power(3, 0, 0);
        callAllThatEndNothing(x);
        CHECK.power("reopen() if none is open", x::reopen);
        PageStore y = Stores.lasting(1);
        y.power(3, 0, 0);
        callAllThatEndNothing(y);
        y.begin();
        change(y);
        CHECK.power("reopen() in a transaction", y::reopen);
    }

    /** All calls but commit, reopen and power; none is open at the end, and the page is as it was. */
    private static void callAllThatEndNothing(PageStore x) {
        x.begin();
        change(x);
        x.move(0, 0, 1, 0, 256);
        x.mark();
        x.put(1, 0, 1);
        x.back(1);
        x.keep(1);
        x.get(0, 0);
        x.sum(0);
        x.pages();
        x.told(0);
        x.rollback();
    }

    private static void commitEndsIt() {
        for (int when = 0; when <= 4; when++) {
            PageStore x = changed();
            x.power(when, 0, 0);
            Check.told(x::commit);
            CHECK.fine("reopen() behind commit, when " + when, x::reopen);
            x.begin();
            CHECK.fine("the next commit(), when " + when, x::commit);
        }
    }

    private static void reopenEndsIt() {
        for (int when = 0; when <= 4; when++) {
            PageStore x = changed();
            x.power(when, 0, 0);
            Check.told(x::reopen);
            CHECK.fine("the next reopen(), when " + when, x::reopen);
            x.begin();
            change(x);
            CHECK.fine("commit() behind reopen, when " + when, x::commit);
        }
    }

    private static void refusedCommitDoesNotEndIt() {
        PageStore x = Stores.lasting(1);
        x.power(0, 0, 0);
        CHECK.state("commit() if none is open", x::commit);
        x.begin();
        CHECK.power("commit()", x::commit);
        x.power(3, 0, 0);
        CHECK.state("commit() if it is off", x::commit);
        CHECK.power("reopen()", x::reopen);
    }

    private static void notInReopen(int when) {
        for (int k = 0; k < 3; k++) {
            PageStore x = changed();
            Stores.failCommit(x);
            x.power(when, k, 0);
            CHECK.same("reopen(), when " + when, Check.answer(x::reopen), "1");
        }
    }

    private static void fewerWrites(int when) {
        for (int k : new int[] {2, 3, 4, 999, 1000}) {
            for (int b : new int[] {0, 1, 300}) {
                PageStore x = changed();
                x.power(when, k, b);
                CHECK.power("commit(), " + say(when, k, b), x::commit);
                undone(x, say(when, k, b));
            }
        }
    }

    private static void nothingChanged(int when) {
        for (int k : new int[] {0, 1, 1000}) {
            for (int b : new int[] {0, 300}) {
                PageStore x = Stores.begun(1);
                x.power(when, k, b);
                CHECK.power("commit() of nothing, " + say(when, k, b), x::commit);
                undone(x, say(when, k, b));
                PageStore y = Stores.begun(1);
                y.mark();
                change(y);
                y.back(1);
                y.power(when, k, b);
                CHECK.power("commit() of what was taken back, " + say(when, k, b), y::commit);
                undone(y, say(when, k, b));
            }
        }
        PageStore none = Stores.opened(0);
        none.power(when, 0, 0);
        CHECK.power("commit() of no pages", none::commit);
        CHECK.is("reopen()", none.reopen(), 0);
        CHECK.is("told(3)", none.told(3), 0);
    }

    private static void beforeEmptying() {
        for (int b : new int[] {0, 1, 300}) {
            PageStore x = changed();
            x.power(2, 0, b);
            CHECK.power("commit(), " + say(2, 0, b), x::commit);
            undone(x, say(2, 0, b));
        }
        PageStore y = Stores.begun(1);
        y.power(2, 0, 0);
        CHECK.power("commit() of nothing", y::commit);
        undone(y, "nothing changed");
    }

    private static void behindEmptying() {
        for (int k : new int[] {1, 2, 999, 1000}) {
            for (int b : new int[] {0, 300}) {
                PageStore x = changed();
                x.power(2, k, b);
                CHECK.power("commit(), " + say(2, k, b), x::commit);
                CHECK.is("told(0)", x.told(0), 0);
                CHECK.is("told(3)", x.told(3), 2);
                CHECK.is("reopen()", x.reopen(), 2);
                CHECK.is("get(0, 3)", x.get(0, 3), 3);
            }
        }
        PageStore y = Stores.begun(1);
        y.power(2, 1, 0);
        CHECK.power("commit() of nothing", y::commit);
        CHECK.is("told(3)", y.told(3), 2);
    }

    private static void notInCommit() {
        for (int k = 0; k < 4; k++) {
            PageStore x = changed();
            x.power(3, k, 0);
            CHECK.fine("commit(), " + say(3, k, 0), x::commit);
            CHECK.is("told(0)", x.told(0), 1);
            CHECK.is("told(3)", x.told(3), 2);
        }
    }

    private static void fewerUndone() {
        for (int k : new int[] {1, 2, 3, 1000}) {
            for (int b : new int[] {0, 1, 300}) {
                PageStore x = changed();
                Stores.failCommit(x);
                x.power(3, k, b);
                CHECK.power("reopen(), " + say(3, k, b), x::reopen);
                CHECK.is("told(0)", x.told(0), 0);
                undone(x, say(3, k, b));
            }
        }
    }

    private static void noneUndone() {
        for (int k : new int[] {0, 1, 1000}) {
            for (int b : new int[] {0, 300}) {
                PageStore x = Stores.lasting(1);
                x.power(3, k, b);
                CHECK.power("reopen() behind commit, " + say(3, k, b), x::reopen);
                undone(x, say(3, k, b));
                PageStore y = new PageStore();
                y.power(3, k, b);
                CHECK.power("reopen() of a new object, " + say(3, k, b), y::reopen);
                CHECK.is("reopen() again", y.reopen(), 0);
            }
        }
    }

    private static void notAtAll() {
        for (int k : new int[] {0, 1, 1000}) {
            for (int b : new int[] {0, 300}) {
                PageStore x = changed();
                x.power(4, k, b);
                CHECK.fine("commit(), " + say(4, k, b), x::commit);
                CHECK.is("told(3)", x.told(3), 2);
                x.power(4, k, b);
                CHECK.same("reopen(), " + say(4, k, b), Check.answer(x::reopen), "2");
            }
        }
        for (int when = 0; when <= 2; when++) {
            PageStore x = changed();
            x.power(when, 0, 0);
            x.power(4, 0, 0);
            CHECK.fine("commit(), when " + when + ", then 4", x::commit);
        }
        PageStore y = changed();
        y.power(3, 0, 0);
        y.power(4, 0, 0);
        CHECK.fine("reopen(), when 3, then 4", y::reopen);
    }

    private static void wrongWhen() {
        PageStore x = Stores.off(1);
        PageStore y = changed();
        for (int wrong : new int[] {-1, 5, 6, LOW, HIGH}) {
            CHECK.argument(say(wrong, 0, 0), () -> y.power(wrong, 0, 0));
            CHECK.argument(say(wrong, 0, 0) + " if it is off", () -> x.power(wrong, 0, 0));
        }
        for (int when = 0; when <= 4; when++) {
            int w = when;
            CHECK.fine(say(when, 0, 0), () -> y.power(w, 0, 0));
            CHECK.fine(say(when, 0, 0) + " if it is off", () -> x.power(w, 0, 0));
        }
    }

    private static void wrongK() {
        PageStore x = changed();
        for (int when = 0; when <= 4; when++) {
            int w = when;
            for (int wrong : new int[] {-1, 1001, LOW, HIGH}) {
                CHECK.argument(say(when, wrong, 0), () -> x.power(w, wrong, 0));
            }
            CHECK.fine(say(when, 0, 0), () -> x.power(w, 0, 0));
            CHECK.fine(say(when, 1000, 0), () -> x.power(w, 1000, 0));
        }
    }

    private static void wrongB() {
        PageStore x = changed();
        for (int when = 0; when <= 4; when++) {
            int w = when;
            for (int wrong : new int[] {-1, 301, LOW, HIGH}) {
                CHECK.argument(say(when, 0, wrong), () -> x.power(w, 0, wrong));
            }
            CHECK.fine(say(when, 0, 0), () -> x.power(w, 0, 0));
            CHECK.fine(say(when, 0, 300), () -> x.power(w, 0, 300));
        }
    }

    private static void sayWrong(PageStore x) {
        for (int when = 0; when <= 4; when++) {
            int w = when;
            Check.told(() -> x.power(w, 1001, 0));
            Check.told(() -> x.power(w, -1, 0));
            Check.told(() -> x.power(w, 0, 301));
            Check.told(() -> x.power(w, 0, -1));
        }
        Check.told(() -> x.power(5, 0, 0));
        Check.told(() -> x.power(-1, 0, 0));
    }

    private static void refusedIsNotSaid() {
        PageStore x = changed();
        sayWrong(x);
        CHECK.fine("commit()", x::commit);
        sayWrong(x);
        CHECK.fine("reopen()", x::reopen);
        PageStore y = changed();
        y.power(2, 1, 0);
        sayWrong(y);
        CHECK.power("commit(), what was said before stays", y::commit);
        CHECK.is("told(3)", y.told(3), 2);
        y.power(3, 0, 0);
        sayWrong(y);
        CHECK.power("reopen(), what was said before stays", y::reopen);
    }

    private static void reopenIfOn() {
        PageStore x = Stores.marked();
        CHECK.is("reopen() in a transaction", x.reopen(), 2);
        CHECK.is("told(0)", x.told(0), 1);
        CHECK.is("told(1)", x.told(1), 0);
        CHECK.is("told(2)", x.told(2), 0);
        CHECK.is("told(3)", x.told(3), 1);
        CHECK.same("pages", Stores.pages(x), Stores.pages(Stores.lasting(2)));
        CHECK.state("rollback()", x::rollback);
        x.begin();
        CHECK.is("add()", x.add(), 2);
    }

    private static void reopenIfOff() {
        PageStore x = Stores.off(2);
        CHECK.is("reopen()", x.reopen(), 2);
        CHECK.is("told(0)", x.told(0), 1);
        CHECK.is("pages()", x.pages(), 2);
        CHECK.fine("begin()", x::begin);
        PageStore y = changed();
        Stores.failCommit(y);
        CHECK.is("reopen() behind a commit that failed", y.reopen(), 1);
        CHECK.is("told(0)", y.told(0), 1);
    }

    private static void reopenHasWhatIsLasting() {
        PageStore x = Stores.lasting(2);
        String before = Stores.pages(x);
        x.begin();
        x.put(1, 255, 8);
        x.reopen();
        CHECK.same("pages, one not lasting", Stores.pages(x), before);
        x.begin();
        x.put(1, 255, 8);
        x.commit();
        String behind = Stores.pages(x);
        x.reopen();
        CHECK.same("pages, two lasting", Stores.pages(x), behind);
        x.reopen();
        CHECK.same("pages, again", Stores.pages(x), behind);
        x.begin();
        x.put(0, 0, 9);
        Stores.failCommit(x);
        x.reopen();
        CHECK.same("pages behind a commit that failed", Stores.pages(x), behind);
    }

    private static void reopenForgetsWhatWasSaid() {
        for (int when = 0; when <= 2; when++) {
            PageStore x = changed();
            x.power(when, 0, 0);
            CHECK.fine("reopen() if it is on, when " + when, x::reopen);
            x.begin();
            change(x);
            CHECK.fine("commit(), when " + when, x::commit);
            Stores.failReopen(x);
            x.power(when, 0, 0);
            CHECK.fine("reopen() if it is off, when " + when, x::reopen);
            x.begin();
            x.put(0, 0, 1);
            CHECK.fine("commit() then, when " + when, x::commit);
        }
        PageStore y = Stores.off(1);
        y.power(3, 5, 5);
        CHECK.power("reopen(), when 3", y::reopen);
        CHECK.fine("reopen() again", y::reopen);
    }

    private static void reopenAnswersPages() {
        CHECK.is("reopen() of a new object", new PageStore().reopen(), 0);
        CHECK.is("reopen() with none lasting", Stores.opened(3).reopen(), 0);
        CHECK.is("reopen() with three", Stores.lasting(3).reopen(), 3);
        CHECK.is("reopen() with three if it is off", Stores.off(3).reopen(), 3);
        CHECK.is("reopen() with more that are not lasting", Stores.marked().reopen(), 2);
    }

    private static void reopenAsPowerFails() {
        PageStore x = Stores.marked();
        x.power(3, 7, 7);
        CHECK.power("reopen() in a transaction", x::reopen);
        CHECK.is("told(0)", x.told(0), 0);
        CHECK.is("told(1)", x.told(1), 0);
        CHECK.is("told(2)", x.told(2), 0);
        CHECK.state("begin()", x::begin);
        CHECK.state("pages()", x::pages);
        x.power(3, 0, 0);
        CHECK.power("reopen() if it is off", x::reopen);
        CHECK.is("told(0) still", x.told(0), 0);
        CHECK.is("reopen() at last", x.reopen(), 2);
        CHECK.same("pages", Stores.pages(x), Stores.pages(Stores.lasting(2)));
    }

    private static void toldOn() {
        PageStore x = new PageStore();
        CHECK.is("told(0) of a new object", x.told(0), 1);
        x.begin();
        CHECK.is("told(0) in a transaction", x.told(0), 1);
        Stores.failCommit(x);
        CHECK.is("told(0) if it is off", x.told(0), 0);
        x.reopen();
        CHECK.is("told(0) behind reopen", x.told(0), 1);
        Stores.failReopen(x);
        CHECK.is("told(0) if reopen failed", x.told(0), 0);
    }

    private static void toldOpen() {
        PageStore x = new PageStore();
        CHECK.is("told(1) of a new object", x.told(1), 0);
        x.begin();
        CHECK.is("told(1) behind begin", x.told(1), 1);
        x.mark();
        x.back(1);
        CHECK.is("told(1) behind back", x.told(1), 1);
        x.keep(1);
        CHECK.is("told(1) behind keep", x.told(1), 1);
        x.rollback();
        CHECK.is("told(1) behind rollback", x.told(1), 0);
        x.begin();
        x.commit();
        CHECK.is("told(1) behind commit", x.told(1), 0);
        x.begin();
        x.reopen();
        CHECK.is("told(1) behind reopen", x.told(1), 0);
    }

    private static void toldMarks() {
        PageStore x = Stores.opened(1);
        CHECK.is("told(2) of none", x.told(2), 0);
        for (int m = 1; m <= 5; m++) {
            x.mark();
            CHECK.is("told(2)", x.told(2), m);
        }
        x.back(4);
        CHECK.is("told(2) behind back(4)", x.told(2), 4);
        x.keep(3);
        CHECK.is("told(2) behind keep(3)", x.told(2), 2);
        x.keep(1);
        CHECK.is("told(2) behind keep(1)", x.told(2), 0);
        CHECK.is("told(2) if none is open", Stores.lasting(1).told(2), 0);
    }

    private static void toldLasting() {
        PageStore x = new PageStore();
        CHECK.is("told(3) of a new object", x.told(3), 0);
        for (int i = 1; i <= 20; i++) {
            x.begin();
            CHECK.is("told(3) before commit", x.told(3), i - 1);
            x.add();
            x.commit();
            CHECK.is("told(3) behind commit", x.told(3), i);
            x.begin();
            x.add();
            x.rollback();
            CHECK.is("told(3) behind rollback", x.told(3), i);
        }
        x.begin();
        x.commit();
        CHECK.is("told(3) behind commit of nothing", x.told(3), 21);
        for (int when = 0; when <= 2; when++) {
            x.begin();
            x.put(0, 0, 1);
            x.power(when, 0, 0);
            CHECK.power("commit()", x::commit);
            CHECK.is("told(3) behind a commit that failed", x.told(3), 21);
            x.reopen();
        }
    }

    private static void toldLastingBehindReopen() {
        PageStore x = Stores.lasting(1);
        x.reopen();
        CHECK.is("told(3) behind reopen", x.told(3), 1);
        Stores.failReopen(x);
        CHECK.is("told(3) if it is off", x.told(3), 1);
        x.reopen();
        x.begin();
        x.commit();
        CHECK.is("told(3) behind the next", x.told(3), 2);
        CHECK.is("told(3) of another object", new PageStore().told(3), 0);
    }

    private static void toldLastingAsPowerFailed() {
        PageStore x = changed();
        x.power(2, 1, 0);
        CHECK.power("commit()", x::commit);
        CHECK.is("told(3) if it is off", x.told(3), 2);
        x.reopen();
        CHECK.is("told(3) behind reopen", x.told(3), 2);
    }

    private static void toldIfOff() {
        PageStore x = Stores.marked();
        Stores.failCommit(x);
        CHECK.is("told(1) if commit failed", x.told(1), 0);
        CHECK.is("told(2) if commit failed", x.told(2), 0);
        PageStore y = Stores.marked();
        y.power(2, 1, 0);
        CHECK.power("commit()", y::commit);
        CHECK.is("told(1) if power failed behind commit", y.told(1), 0);
        CHECK.is("told(2) if power failed behind commit", y.told(2), 0);
        PageStore z = Stores.marked();
        Stores.failReopen(z);
        CHECK.is("told(1) if reopen failed", z.told(1), 0);
        CHECK.is("told(2) if reopen failed", z.told(2), 0);
    }

    private static void toldOthers() {
        PageStore x = new PageStore();
        PageStore y = Stores.off(1);
        for (int wrong : new int[] {-1, 4, 5, LOW, HIGH}) {
            CHECK.argument("told(" + wrong + ")", () -> x.told(wrong));
            CHECK.argument("told(" + wrong + ") if it is off", () -> y.told(wrong));
        }
    }
}
