/** Each promise by itself: ordinary inputs, the edges that the document names, and wrong inputs. */
public final class PromisesTest {
    private static final Class<IllegalStateException> STATE = IllegalStateException.class;
    private static final Class<IndexOutOfBoundsException> INDEX = IndexOutOfBoundsException.class;
    private static final Class<IllegalArgumentException> ARGUMENT = IllegalArgumentException.class;
    private static final Class<ArithmeticException> POWER = ArithmeticException.class;
    private static final int LOW = Integer.MIN_VALUE;
    private static final int HIGH = Integer.MAX_VALUE;

    private static final Check CHECK = new Check();

    public static void main(String[] args) {
        promise1NewObject();
        promise2Pages();
        promise3Add();
        promise3AddMost();
        promise4Get();
        promise5Put();
        promise6Move();
        promise6MoveRefuses();
        promise7Sum();
        promise8Begin();
        promise9Commit();
        promise10Rollback();
        promise11Mark();
        promise12Back();
        promise13Keep();
        promise13KeepUnderMarks();
        promise14PowerWrong();
        promise14PowerSaid();
        promise14PowerAtEmptying();
        promise15Reopen();
        promise15ReopenFails();
        promise16Told();
        whatThrowsChangesNothing();
        CHECK.end();
    }

    /** On, a transaction open, with so many pages of zeros. */
    private static PageStore opened(int pages) {
        PageStore x = new PageStore();
        x.begin();
        for (int p = 0; p < pages; p++) {
            x.add();
        }
        return x;
    }

    /** On, none open, with so many lasting pages of zeros. */
    private static PageStore lasting(int pages) {
        PageStore x = opened(pages);
        x.commit();
        return x;
    }

    private static PageStore off(int pages) {
        PageStore x = lasting(pages);
        x.power(3, 0, 0);
        CHECK.throwsIt("reopen() with power(3)", POWER, x::reopen);
        return x;
    }

    private static void promise1NewObject() {
        PageStore x = new PageStore();
        CHECK.is("1 pages()", x.pages(), 0);
        CHECK.is("1 told(0)", x.told(0), 1);
        CHECK.is("1 told(1)", x.told(1), 0);
        CHECK.is("1 told(2)", x.told(2), 0);
        CHECK.is("1 told(3)", x.told(3), 0);
        CHECK.throwsIt("1 commit()", STATE, x::commit);
        CHECK.is("1 reopen()", x.reopen(), 0);
        PageStore y = opened(2);
        CHECK.is("1 another has its own pages", x.pages(), 0);
        CHECK.is("1 another", y.pages(), 2);
    }

    private static void promise2Pages() {
        PageStore x = opened(3);
        CHECK.is("2 pages() in it", x.pages(), 3);
        x.commit();
        CHECK.is("2 pages() behind it", x.pages(), 3);
        PageStore y = off(3);
        CHECK.throwsIt("2 pages() if off", STATE, y::pages);
        y.reopen();
        CHECK.is("2 pages() behind reopen", y.pages(), 3);
    }

    private static void promise3Add() {
        PageStore x = new PageStore();
        CHECK.throwsIt("3 add(), none open", STATE, x::add);
        x.begin();
        CHECK.is("3 add()", x.add(), 0);
        x.put(0, 0, 255);
        x.put(0, 255, 255);
        CHECK.is("3 add() again", x.add(), 1);
        x.mark();
        CHECK.is("3 add() behind a mark", x.add(), 2);
        x.put(2, 9, 9);
        x.back(1);
        CHECK.is("3 add() behind back", x.add(), 2);
        CHECK.is("3 what is added is zeros", x.get(2, 9), 0);
        x.rollback();
        x.begin();
        x.add();
        CHECK.is("3 zeros behind rollback", x.get(0, 0), 0);
        CHECK.is("3 zeros to the end", x.get(0, 255), 0);
        CHECK.throwsIt("3 add() if off", STATE, off(1)::add);
    }

    /** No run of 512 calls gets there, but the document names the limit. */
    private static void promise3AddMost() {
        PageStore x = new PageStore();
        x.begin();
        for (int p = 0; p < PageStore.MOST; p++) {
            CHECK.is("3 add() up to MOST", x.add(), p);
        }
        CHECK.throwsIt("3 add() with MOST", STATE, x::add);
        CHECK.is("3 pages() with MOST", x.pages(), PageStore.MOST);
        x.put(PageStore.MOST - 1, 255, 1);
        x.commit();
        x.begin();
        for (int p = 0; p < PageStore.MOST; p++) {
            x.put(p, 1, p);
        }
        x.power(1, PageStore.MOST - 1, 100);
        CHECK.throwsIt("3 commit() of all, cut", POWER, x::commit);
        CHECK.is("3 reopen() with MOST", x.reopen(), PageStore.MOST);
        CHECK.is("3 the last page is undone", x.get(PageStore.MOST - 1, 1), 0);
        CHECK.is("3 the last page lasts", x.get(PageStore.MOST - 1, 255), 1);
    }

    private static void promise4Get() {
        PageStore x = opened(2);
        x.put(0, 0, 128);
        x.put(1, 255, -1);
        CHECK.is("4 get() is not below 0", x.get(0, 0), 128);
        CHECK.is("4 get() of the last", x.get(1, 255), 255);
        CHECK.is("4 get() of a zero", x.get(1, 0), 0);
        x.commit();
        CHECK.is("4 get(), none open", x.get(1, 255), 255);
        for (int wrong : new int[] {-1, 2, LOW, HIGH}) {
            CHECK.throwsIt("4 get() of page " + wrong, INDEX, () -> x.get(wrong, 0));
        }
        for (int wrong : new int[] {-1, 256, LOW, HIGH}) {
            CHECK.throwsIt("4 get() of byte " + wrong, INDEX, () -> x.get(0, wrong));
        }
        PageStore y = off(1);
        CHECK.throwsIt("4 get() if off", STATE, () -> y.get(0, 0));
        CHECK.throwsIt("4 get() if off, of none", STATE, () -> y.get(9, 999));
    }

    private static void promise5Put() {
        PageStore x = opened(2);
        CHECK.is("5 put() answers what was", x.put(1, 7, 200), 0);
        CHECK.is("5 put() answers 0 to 255", x.put(1, 7, 511), 200);
        CHECK.is("5 put() takes the low 8 bits", x.put(1, 7, -256), 255);
        CHECK.is("5 put() of -256 is 0", x.get(1, 7), 0);
        CHECK.is("5 put() changes no other page", x.get(0, 7), 0);
        CHECK.is("5 put() changes no other byte", x.get(1, 8), 0);
        for (int wrong : new int[] {-1, 2, LOW, HIGH}) {
            CHECK.throwsIt("5 put() to page " + wrong, INDEX, () -> x.put(wrong, 0, 1));
        }
        for (int wrong : new int[] {-1, 256, LOW, HIGH}) {
            CHECK.throwsIt("5 put() to byte " + wrong, INDEX, () -> x.put(0, wrong, 1));
        }
        x.commit();
        CHECK.throwsIt("5 put(), none open", STATE, () -> x.put(0, 0, 1));
        CHECK.throwsIt("5 put(), none open, to none", STATE, () -> x.put(9, 0, 1));
        PageStore y = off(1);
        CHECK.throwsIt("5 put() if off", STATE, () -> y.put(0, 0, 1));
        CHECK.throwsIt("5 put() if off, to none", STATE, () -> y.put(9, 0, 1));
    }

    private static void promise6Move() {
        PageStore x = opened(2);
        for (int i = 0; i < 8; i++) {
            x.put(0, i, 10 + i);
        }
        x.commit();
        x.begin();
        x.move(0, 0, 0, 2, 6);
        for (int i = 0; i < 8; i++) {
            CHECK.is("6 move() up over itself, " + i, x.get(0, i), i < 2 ? 10 + i : 8 + i);
        }
        x.rollback();
        x.begin();
        x.move(0, 2, 0, 0, 6);
        for (int i = 0; i < 8; i++) {
            CHECK.is("6 move() down over itself, " + i, x.get(0, i), i < 6 ? 12 + i : 10 + i);
        }
        x.rollback();
        x.begin();
        x.move(0, 1, 1, 253, 3);
        CHECK.is("6 move() to another page", x.get(1, 253), 11);
        CHECK.is("6 move() up to its end", x.get(1, 255), 13);
        CHECK.is("6 move() leaves the rest", x.get(1, 252), 0);
        CHECK.is("6 move() leaves what is moved", x.get(0, 1), 11);
        x.move(0, 0, 1, 0, 256);
        CHECK.is("6 move() of a whole page", x.sum(1), x.sum(0));
        x.move(0, 0, 1, 10, 0);
        CHECK.is("6 move() of none", x.sum(1), x.sum(0));
        CHECK.fine("6 move() of none at the end", () -> x.move(0, 256, 1, 256, 0));
    }

    private static void promise6MoveRefuses() {
        PageStore x = opened(2);
        for (int wrong : new int[] {-1, 2, LOW, HIGH}) {
            CHECK.throwsIt("6 move() from page " + wrong, INDEX, () -> x.move(wrong, 0, 0, 0, 0));
            CHECK.throwsIt("6 move() to page " + wrong, INDEX, () -> x.move(0, 0, wrong, 0, 0));
        }
        for (int wrong : new int[] {-1, 257, LOW, HIGH}) {
            CHECK.throwsIt("6 move() from " + wrong, INDEX, () -> x.move(0, wrong, 0, 0, 0));
            CHECK.throwsIt("6 move() to " + wrong, INDEX, () -> x.move(0, 0, 0, wrong, 0));
            CHECK.throwsIt("6 move() of " + wrong, INDEX, () -> x.move(0, 0, 1, 0, wrong));
        }
        CHECK.throwsIt("6 move() of -1 from 5 to 5", INDEX, () -> x.move(0, 5, 1, 5, -1));
        CHECK.throwsIt("6 move() from beyond", INDEX, () -> x.move(0, 1, 1, 0, 256));
        CHECK.throwsIt("6 move() to beyond", INDEX, () -> x.move(0, 0, 1, 255, 2));
        CHECK.throwsIt("6 move() that wraps", INDEX, () -> x.move(0, 256, 1, 256, HIGH));
        CHECK.throwsIt("6 move() from high", INDEX, () -> x.move(0, HIGH, 1, 0, 1));
        x.commit();
        CHECK.throwsIt("6 move(), none open", STATE, () -> x.move(0, 0, 1, 0, 1));
        CHECK.throwsIt("6 move(), none open, wrong", STATE, () -> x.move(9, 0, 1, 0, -1));
        PageStore y = off(1);
        CHECK.throwsIt("6 move() if off", STATE, () -> y.move(0, 0, 0, 0, 1));
        CHECK.throwsIt("6 move() if off, wrong", STATE, () -> y.move(9, 0, 0, 0, -1));
    }

    private static void promise7Sum() {
        PageStore x = opened(1);
        long zeros = 7;
        long high = 7;
        for (int i = 0; i < 256; i++) {
            zeros *= 31;
            high = 31 * high + (i % 2 == 0 ? 0 : 255);
        }
        CHECK.is("7 sum() of zeros", x.sum(0), zeros);
        for (int i = 1; i < 256; i += 2) {
            x.put(0, i, 255);
        }
        CHECK.is("7 sum() with bytes of 255", x.sum(0), high);
        x.commit();
        CHECK.is("7 sum(), none open", x.sum(0), high);
        for (int wrong : new int[] {-1, 1, LOW, HIGH}) {
            CHECK.throwsIt("7 sum() of page " + wrong, INDEX, () -> x.sum(wrong));
        }
        PageStore y = off(1);
        CHECK.throwsIt("7 sum() if off", STATE, () -> y.sum(0));
        CHECK.throwsIt("7 sum() if off, of none", STATE, () -> y.sum(9));
    }

    private static void promise8Begin() {
        PageStore x = new PageStore();
        CHECK.fine("8 begin()", x::begin);
        CHECK.is("8 one is open", x.told(1), 1);
        CHECK.throwsIt("8 begin() in one", STATE, x::begin);
        CHECK.is("8 it is still open", x.told(1), 1);
        x.mark();
        x.rollback();
        x.begin();
        CHECK.is("8 without marks", x.told(2), 0);
        CHECK.throwsIt("8 no mark to go back to", INDEX, () -> x.back(1));
        CHECK.throwsIt("8 begin() if off", STATE, off(0)::begin);
    }

    private static void promise9Commit() {
        PageStore x = opened(1);
        x.put(0, 0, 5);
        x.mark();
        x.add();
        x.put(0, 0, 6);
        CHECK.fine("9 commit()", x::commit);
        CHECK.is("9 none is open", x.told(1), 0);
        CHECK.is("9 no marks", x.told(2), 0);
        CHECK.is("9 the page", x.get(0, 0), 6);
        CHECK.is("9 lasting pages", x.reopen(), 2);
        CHECK.is("9 the lasting page", x.get(0, 0), 6);
        CHECK.throwsIt("9 commit(), none open", STATE, x::commit);
        x.begin();
        CHECK.fine("9 commit() of nothing", x::commit);
        CHECK.is("9 it counts", x.told(3), 2);
        x.begin();
        x.power(2, 0, 0);
        CHECK.throwsIt("9 commit() as power fails", POWER, x::commit);
        CHECK.is("9 it is off", x.told(0), 0);
        CHECK.throwsIt("9 commit() if off", STATE, x::commit);
    }

    private static void promise10Rollback() {
        PageStore x = lasting(1);
        CHECK.throwsIt("10 rollback(), none open", STATE, x::rollback);
        x.begin();
        x.put(0, 0, 1);
        x.add();
        x.mark();
        x.put(0, 0, 2);
        x.mark();
        x.move(0, 0, 0, 1, 5);
        x.keep(2);
        CHECK.fine("10 rollback()", x::rollback);
        CHECK.is("10 pages()", x.pages(), 1);
        CHECK.is("10 a byte", x.get(0, 0), 0);
        CHECK.is("10 another", x.get(0, 1), 0);
        CHECK.is("10 none is open", x.told(1), 0);
        CHECK.is("10 no marks", x.told(2), 0);
        CHECK.is("10 it is not lasting", x.told(3), 1);
        CHECK.throwsIt("10 rollback() again", STATE, x::rollback);
        CHECK.throwsIt("10 rollback() if off", STATE, off(1)::rollback);
    }

    private static void promise11Mark() {
        PageStore x = new PageStore();
        CHECK.throwsIt("11 mark(), none open", STATE, x::mark);
        x.begin();
        for (int m = 1; m <= 5; m++) {
            CHECK.is("11 mark()", x.mark(), m);
            CHECK.is("11 marks", x.told(2), m);
        }
        CHECK.throwsIt("11 mark() with 5", STATE, x::mark);
        CHECK.is("11 there are still 5", x.told(2), 5);
        x.back(3);
        CHECK.is("11 mark() behind back", x.mark(), 4);
        x.keep(2);
        CHECK.is("11 mark() behind keep", x.mark(), 2);
        CHECK.throwsIt("11 mark() if off", STATE, off(1)::mark);
    }

    private static void promise12Back() {
        PageStore x = lasting(1);
        x.begin();
        for (int m = 1; m <= 5; m++) {
            x.put(0, 0, m);
            x.put(0, m, m);
            x.mark();
            x.add();
        }
        x.put(0, 0, 9);
        for (int m = 5; m >= 1; m--) {
            for (int again = 0; again < 2; again++) {
                x.put(0, 0, 99);
                x.put(0, m, 99);
                x.add();
                x.back(m);
                CHECK.is("12 a byte at mark " + m, x.get(0, 0), m);
                CHECK.is("12 another at mark " + m, x.get(0, m), m);
                CHECK.is("12 pages() at mark " + m, x.pages(), m);
                CHECK.is("12 mark " + m + " stays", x.told(2), m);
            }
        }
        for (int wrong : new int[] {0, 2, -1, LOW, HIGH}) {
            CHECK.throwsIt("12 back() to " + wrong, INDEX, () -> x.back(wrong));
        }
        x.commit();
        CHECK.is("12 what is lasting", x.get(0, 0), 1);
        CHECK.throwsIt("12 back(), none open", STATE, () -> x.back(1));
        CHECK.throwsIt("12 back(), none open, to none", STATE, () -> x.back(0));
        PageStore y = off(1);
        CHECK.throwsIt("12 back() if off", STATE, () -> y.back(1));
    }

    private static void promise13Keep() {
        PageStore x = lasting(1);
        x.begin();
        x.put(0, 0, 1);
        for (int m = 1; m <= 5; m++) {
            x.mark();
            x.put(0, m, m);
            x.put(0, 0, 10 + m);
            x.add();
        }
        for (int wrong : new int[] {0, 6, -1, LOW, HIGH}) {
            CHECK.throwsIt("13 keep() of " + wrong, INDEX, () -> x.keep(wrong));
        }
        x.keep(2);
        CHECK.is("13 marks", x.told(2), 1);
        CHECK.throwsIt("13 the mark is forgotten", INDEX, () -> x.back(2));
        CHECK.is("13 what was done stays", x.get(0, 0), 15);
        CHECK.is("13 all of it", x.get(0, 3), 3);
        CHECK.is("13 pages() stay", x.pages(), 6);
        x.keep(1);
        CHECK.is("13 no marks", x.told(2), 0);
        CHECK.is("13 it still stays", x.get(0, 0), 15);
        x.commit();
        x.reopen();
        CHECK.is("13 and lasts", x.get(0, 5), 5);
        CHECK.is("13 with all pages", x.pages(), 6);
        CHECK.throwsIt("13 keep(), none open", STATE, () -> x.keep(1));
        CHECK.throwsIt("13 keep(), none open, of none", STATE, () -> x.keep(0));
        PageStore y = off(1);
        CHECK.throwsIt("13 keep() if off", STATE, () -> y.keep(1));
    }

    /** What marks held that are forgotten is still undone by one below them. */
    private static void promise13KeepUnderMarks() {
        PageStore x = lasting(3);
        x.begin();
        x.put(0, 0, 1);
        x.mark();
        x.put(1, 0, 2);
        x.mark();
        x.put(0, 0, 3);
        x.put(2, 0, 3);
        x.add();
        x.mark();
        x.put(1, 0, 4);
        x.keep(2);
        x.put(2, 0, 5);
        x.mark();
        x.put(0, 0, 6);
        x.back(2);
        CHECK.is("13 back to a mark behind keep", x.get(0, 0), 3);
        x.back(1);
        CHECK.is("13 back to one below, page 0", x.get(0, 0), 1);
        CHECK.is("13 back to one below, page 1", x.get(1, 0), 0);
        CHECK.is("13 back to one below, page 2", x.get(2, 0), 0);
        CHECK.is("13 back to one below, pages()", x.pages(), 3);
    }

    private static void promise14PowerWrong() {
        PageStore x = lasting(1);
        x.power(2, 0, 0);
        for (int wrong : new int[] {-1, 5, LOW, HIGH}) {
            CHECK.throwsIt("14 power() when " + wrong, ARGUMENT, () -> x.power(wrong, 0, 0));
        }
        for (int when = 0; when <= 4; when++) {
            int w = when;
            for (int wrong : new int[] {-1, 1001, LOW, HIGH}) {
                CHECK.throwsIt("14 power() k " + wrong, ARGUMENT, () -> x.power(w, wrong, 0));
            }
            for (int wrong : new int[] {-1, 301, LOW, HIGH}) {
                CHECK.throwsIt("14 power() b " + wrong, ARGUMENT, () -> x.power(w, 0, wrong));
            }
        }
        x.begin();
        CHECK.throwsIt("14 what was refused is not said", POWER, x::commit);
        CHECK.throwsIt("14 power() wrong if off", ARGUMENT, () -> x.power(5, 0, 0));
        CHECK.fine("14 power() up to its edges", () -> x.power(0, 1000, 300));
        CHECK.fine("14 power() down to them", () -> x.power(4, 0, 0));
    }

    private static void promise14PowerSaid() {
        PageStore x = lasting(1);
        x.power(0, 0, 0);
        x.power(4, 0, 0);
        x.begin();
        x.put(0, 0, 1);
        CHECK.fine("14 power(4) forgets what was said", x::commit);
        x.power(1, 0, 0);
        CHECK.throwsIt("14 a commit that is refused", STATE, x::commit);
        x.begin();
        x.put(0, 0, 2);
        x.rollback();
        x.begin();
        x.put(0, 0, 3);
        CHECK.throwsIt("14 it stays said till a commit", POWER, x::commit);
        x.reopen();
        x.begin();
        x.put(0, 0, 4);
        CHECK.fine("14 power fails once", x::commit);
        x.power(3, 0, 0);
        x.begin();
        CHECK.fine("14 power(3) is not of commit", x::commit);
        CHECK.same("14 a commit ends what was said", Check.told((Check.Call) x::reopen), "1");
        x.power(3, 0, 0);
        CHECK.throwsIt("14 power(3)", POWER, x::reopen);
        x.power(3, 0, 0);
        CHECK.throwsIt("14 power(3) while it is off", POWER, x::reopen);
        x.power(2, 0, 0);
        CHECK.is("14 power(2) is not of reopen", x.reopen(), 1);
        x.begin();
        CHECK.fine("14 reopen forgets what was said", x::commit);
        CHECK.is("14 the byte", x.get(0, 0), 4);
    }

    private static void promise14PowerAtEmptying() {
        for (int k : new int[] {0, 1, 2, 1000}) {
            PageStore x = lasting(1);
            x.begin();
            x.put(0, 3, 3);
            x.add();
            x.power(2, k, 300);
            CHECK.throwsIt("14 power(2, " + k + ")", POWER, x::commit);
            CHECK.is("14 off", x.told(0), 0);
            CHECK.is("14 how many are lasting", x.told(3), k == 0 ? 1 : 2);
            CHECK.is("14 pages", x.reopen(), k == 0 ? 1 : 2);
            CHECK.is("14 the byte", x.get(0, 3), k == 0 ? 0 : 3);
        }
    }

    private static void promise15Reopen() {
        PageStore x = lasting(2);
        x.begin();
        x.put(0, 0, 1);
        x.mark();
        x.add();
        CHECK.is("15 reopen() in a transaction", x.reopen(), 2);
        CHECK.is("15 it is on", x.told(0), 1);
        CHECK.is("15 none is open", x.told(1), 0);
        CHECK.is("15 no marks", x.told(2), 0);
        CHECK.is("15 what is lasting", x.get(0, 0), 0);
        CHECK.is("15 how many are lasting", x.told(3), 1);
        CHECK.is("15 reopen() again", x.reopen(), 2);
        x.begin();
        x.put(1, 255, 8);
        x.commit();
        CHECK.is("15 reopen() behind a commit", x.reopen(), 2);
        CHECK.is("15 what is lasting then", x.get(1, 255), 8);
    }

    private static void promise15ReopenFails() {
        PageStore x = lasting(1);
        x.begin();
        x.put(0, 0, 1);
        x.power(3, 7, 7);
        CHECK.throwsIt("15 reopen() as power fails", POWER, x::reopen);
        CHECK.is("15 it is off", x.told(0), 0);
        CHECK.is("15 none is open", x.told(1), 0);
        CHECK.throwsIt("15 begin() then", STATE, x::begin);
        CHECK.is("15 reopen() then", x.reopen(), 1);
        CHECK.is("15 what is lasting", x.get(0, 0), 0);
        CHECK.fine("15 begin() again", x::begin);
    }

    private static void promise16Told() {
        PageStore x = new PageStore();
        for (int wrong : new int[] {-1, 4, LOW, HIGH}) {
            CHECK.throwsIt("16 told() of " + wrong, ARGUMENT, () -> x.told(wrong));
        }
        x.begin();
        x.add();
        x.mark();
        x.mark();
        CHECK.is("16 on", x.told(0), 1);
        CHECK.is("16 open", x.told(1), 1);
        CHECK.is("16 marks", x.told(2), 2);
        CHECK.is("16 lasting", x.told(3), 0);
        x.power(2, 1, 0);
        CHECK.throwsIt("16 commit()", POWER, x::commit);
        CHECK.is("16 off", x.told(0), 0);
        CHECK.is("16 none open if off", x.told(1), 0);
        CHECK.is("16 no marks if off", x.told(2), 0);
        CHECK.is("16 one behind which power failed", x.told(3), 1);
        CHECK.throwsIt("16 told() of 4 if off", ARGUMENT, () -> x.told(4));
        x.power(3, 0, 0);
        CHECK.throwsIt("16 reopen()", POWER, x::reopen);
        x.reopen();
        CHECK.is("16 lasting behind reopen", x.told(3), 1);
        x.begin();
        x.rollback();
        CHECK.is("16 rollback does not count", x.told(3), 1);
        x.begin();
        x.commit();
        CHECK.is("16 commit does", x.told(3), 2);
    }

    private static void whatThrowsChangesNothing() {
        PageStore x = opened(2);
        x.put(0, 0, 1);
        x.mark();
        x.put(1, 1, 2);
        long sum0 = x.sum(0);
        long sum1 = x.sum(1);
        CHECK.throwsIt("begin()", STATE, x::begin);
        CHECK.throwsIt("put()", INDEX, () -> x.put(0, 256, 9));
        CHECK.throwsIt("move()", INDEX, () -> x.move(0, 0, 1, 255, 2));
        CHECK.throwsIt("back()", INDEX, () -> x.back(2));
        CHECK.throwsIt("keep()", INDEX, () -> x.keep(2));
        CHECK.throwsIt("told()", ARGUMENT, () -> x.told(7));
        CHECK.is("page 0", x.sum(0), sum0);
        CHECK.is("page 1", x.sum(1), sum1);
        CHECK.is("pages()", x.pages(), 2);
        CHECK.is("open", x.told(1), 1);
        CHECK.is("marks", x.told(2), 1);
        x.back(1);
        CHECK.is("the mark", x.get(1, 1), 0);
    }
}
