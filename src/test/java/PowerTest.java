/** Power fails at every byte of every write, and what is lasting is there behind it. */
public final class PowerTest {
    /** More writes than a commit of the sample does, so that "if there are fewer" is met too. */
    private static final int WRITES = Sample.OLD + Sample.NEW + 3;
    private static final int[] CUTS = {0, 1, 3, 4, 5, 128, 255, 256, 257, 259, 260, 261, 300};

    private static final Check CHECK = new Check();

    public static void main(String[] args) {
        CHECK.sentence("power may fail at any byte of any write", PowerTest::cutCommitAtEveryByte);
        CHECK.sentence("also while what was begun is undone", PowerTest::cutUndoAtEveryByte);
        CHECK.sentence("again and again", PowerTest::cutAgainAndAgain);
        CHECK.sentence("also if pages are only added", PowerTest::cutWhatOnlyAdds);
        CHECK.sentence("14: or nothing changed", PowerTest::nothingChanged);
        CHECK.sentence("at most 512 calls, all of them to add", PowerTest::addAllAlong);
        CHECK.sentence("at most 512 calls, half of them to change", PowerTest::changeAllPages);
        CHECK.end();
    }

    private static long[] sums(PageStore x) {
        long[] sums = new long[x.pages()];
        for (int p = 0; p < sums.length; p++) {
            sums[p] = x.sum(p);
        }
        return sums;
    }

    private static void same(String what, PageStore x, long[] due) {
        CHECK.is(what + ": pages()", x.pages(), due.length);
        for (int p = 0; p < due.length; p++) {
            CHECK.is(what + ": sum(" + p + ")", x.sum(p), due[p]);
        }
    }

    private static void cutCommitAtEveryByte() {
        long[] due = sums(Sample.filled());
        for (int when = 0; when <= 1; when++) {
            for (int k = 0; k < WRITES; k++) {
                for (int b = 0; b <= 300; b++) {
                    String what = "power(" + when + ", " + k + ", " + b + ")";
                    PageStore x = Sample.filled();
                    Sample.change(x);
                    x.power(when, k, b);
                    CHECK.power(what, x::commit);
                    CHECK.is(what + ": told(3)", x.told(3), 1);
                    CHECK.is(what + ": reopen()", x.reopen(), Sample.OLD);
                    same(what, x, due);
                }
            }
        }
    }

    private static void cutUndoAtEveryByte() {
        long[] due = sums(Sample.filled());
        for (int k = 0; k < WRITES; k++) {
            for (int b = 0; b <= 300; b++) {
                String what = "power(3, " + k + ", " + b + ")";
                PageStore x = Sample.filled();
                Sample.change(x);
                x.power(1, Sample.OLD, 100);
                CHECK.power(what + ": commit()", x::commit);
                x.power(3, k, b);
                CHECK.power(what + ": reopen()", x::reopen);
                CHECK.is(what + ": told(0)", x.told(0), 0);
                CHECK.is(what + ": reopen() again", x.reopen(), Sample.OLD);
                same(what, x, due);
            }
        }
    }

    /** One object through all cuts, each behind the one before, and a commit that lasts at the end. */
    private static void cutAgainAndAgain() {
        long[] before = sums(Sample.filled());
        PageStore changed = Sample.filled();
        Sample.change(changed);
        changed.commit();
        long[] behind = sums(changed);
        for (int b : CUTS) {
            PageStore x = Sample.filled();
            for (int k = 0; k < WRITES; k++) {
                String what = "again, " + k + ", " + b;
                Sample.change(x);
                x.power(k % 2, k, b);
                CHECK.power(what + ": commit()", x::commit);
                x.power(3, k, b);
                CHECK.power(what + ": reopen()", x::reopen);
                x.power(3, WRITES - k, b);
                CHECK.power(what + ": reopen() again", x::reopen);
                x.reopen();
                same(what, x, before);
            }
            Sample.change(x);
            x.commit();
            same("lasting", x, behind);
            x.reopen();
            same("lasting behind reopen", x, behind);
            CHECK.is("told(3)", x.told(3), 2);
        }
    }

    /** The first pages of all: then there is no old one to be undone. */
    private static void cutWhatOnlyAdds() {
        for (int when = 0; when <= 2; when++) {
            for (int k = 0; k < 4; k++) {
                for (int b : CUTS) {
                    int due = when == 2 && k > 0 ? 2 : 0;
                    String what = "adds, power(" + when + ", " + k + ", " + b + ")";
                    PageStore x = new PageStore();
                    x.begin();
                    x.add();
                    x.add();
                    x.put(1, 255, 255);
                    x.power(when, k, b);
                    CHECK.power(what, x::commit);
                    CHECK.is(what + ": reopen()", x.reopen(), due);
                    x.begin();
                    CHECK.is(what + ": add()", x.add(), due);
                    CHECK.is(what + ": zeros", x.get(due, 255), 0);
                    x.commit();
                    CHECK.is(what + ": reopen() then", x.reopen(), due + 1);
                }
            }
        }
    }

    private static void nothingChanged() {
        for (int when = 0; when <= 2; when++) {
            for (int k : new int[] {0, 1, 50, 1000}) {
                String what = "nothing changed, power(" + when + ", " + k + ", 0)";
                PageStore x = Sample.filled();
                long[] due = sums(x);
                x.power(when, k, 0);
                x.begin();
                CHECK.power(what, x::commit);
                CHECK.is(what + ": told(3)", x.told(3), when == 2 && k > 0 ? 2 : 1);
                x.reopen();
                same(what, x, due);
            }
        }
    }

    private static void addAllAlong() {
        int pages = 507;
        for (int k : new int[] {0, 1, 255, 256, pages - 1, pages, 1000}) {
            for (int when = 0; when <= 2; when++) {
                String what = "adds all along, power(" + when + ", " + k + ", 100)";
                PageStore x = Stores.opened(pages);
                x.power(when, k, 100);
                CHECK.power(what, x::commit);
                CHECK.is(what + ": reopen()", x.reopen(), when == 2 && k > 0 ? pages : 0);
            }
        }
    }

    private static void changeAllPages() {
        int pages = 200;
        String due = Stores.pages(Stores.lasting(pages));
        for (int k : new int[] {0, 1, 100, pages - 1, pages, pages + 1, 1000}) {
            for (int when = 0; when <= 2; when++) {
                String what = "changes all pages, power(" + when + ", " + k + ", 100)";
                PageStore x = Stores.begun(pages);
                for (int p = 0; p < pages; p++) {
                    x.put(p, p, 1 + p);
                }
                String done = Stores.pages(x);
                x.power(when, k, 100);
                CHECK.power(what, x::commit);
                x.power(3, k, 100);
                CHECK.power(what + ": reopen()", x::reopen);
                x.reopen();
                CHECK.same(what + ": pages", Stores.pages(x), when == 2 && k > 0 ? done : due);
            }
        }
    }
}
