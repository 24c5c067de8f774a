/** Stores in the states that tests start from, and what can be seen of a store. */
final class Stores {
    private static final int MARKS = 5;

    private Stores() {
    }

    /** On, a transaction open, with so many pages of zeros, none of them lasting. */
    static PageStore opened(int pages) {
        PageStore x = new PageStore();
        x.begin();
        for (int p = 0; p < pages; p++) {
            x.add();
        }
        return x;
    }

    /** On, none open, with so many lasting pages of zeros. */
    static PageStore lasting(int pages) {
        PageStore x = opened(pages);
        x.commit();
        return x;
    }

    /** On, a transaction open in which nothing was done, with so many lasting pages of zeros. */
    static PageStore begun(int pages) {
        PageStore x = lasting(pages);
        x.begin();
        return x;
    }

    /** Two lasting pages, and five marks: at mark m byte 0 of page 0 is m, and there are m + 1 pages. */
    static PageStore marked() {
        PageStore x = begun(2);
        for (int m = 1; m <= MARKS; m++) {
            x.put(0, 0, m);
            x.mark();
            x.add();
        }
        x.put(0, 0, 99);
        return x;
    }

    /** Off, with so many lasting pages of zeros. */
    static PageStore off(int pages) {
        PageStore x = lasting(pages);
        failReopen(x);
        return x;
    }

    static void failCommit(PageStore x) {
        x.power(2, 0, 0);
        mustFail(x::commit);
    }

    static void failReopen(PageStore x) {
        x.power(3, 0, 0);
        mustFail(x::reopen);
    }

    private static void mustFail(Check.Act act) {
        if (!Check.told(act).equals("throws.ArithmeticException")) {
            throw new IllegalStateException("power did not fail");
        }
    }

    /** All that calls which change nothing tell of a store. */
    static String seen(PageStore x) {
        StringBuilder text = new StringBuilder();
        for (int what = 0; what < 4; what++) {
            text.append(x.told(what)).append(' ');
        }
        if (x.told(0) == 0) {
            return text.append("off").toString();
        }
        text.append("pages ").append(x.pages());
        for (int p = 0; p < x.pages(); p++) {
            text.append(' ').append(x.sum(p));
        }
        return text.toString();
    }

    /** What can be seen of the pages alone. */
    static String pages(PageStore x) {
        String seen = seen(x);
        return seen.substring(seen.indexOf("pages"));
    }
}
