/** A store with lasting pages and a transaction that changes some and adds some. */
final class Sample {
    static final int OLD = 4;
    static final int NEW = 2;
    /** The pages that are changed, in the order of their numbers, then those that are added. */
    static final int[] CHANGED = {0, 1, 3};
    static final int[] WRITTEN = {0, 1, 3, 4, 5};

    private Sample() {
    }

    /** The old pages, lasting: hardly two bytes that stand at one place of two pages are the same. */
    static PageStore filled() {
        PageStore x = new PageStore();
        x.begin();
        for (int p = 0; p < OLD; p++) {
            x.add();
            x.put(p, 0, p + 1);
            for (int n = 1; n < PageStore.PAGE; n *= 2) {
                x.move(p, 0, p, n, n);
                x.put(p, n, n + p);
            }
        }
        x.commit();
        return x;
    }

    /** Leaves a transaction open, with a mark. */
    static void change(PageStore x) {
        x.begin();
        x.move(1, 0, 0, 128, 128);
        x.mark();
        x.move(2, 1, 1, 0, 255);
        x.put(3, 255, 77);
        x.put(3, 0, 78);
        for (int i = 0; i < NEW; i++) {
            int p = x.add();
            x.move(2, 0, p, 0, PageStore.PAGE);
        }
    }

    /** The bytes of all pages, one page behind the other. */
    static byte[] bytes(PageStore x) {
        byte[] bytes = new byte[x.pages() * PageStore.PAGE];
        for (int i = 0; i < bytes.length; i++) {
            bytes[i] = (byte) x.get(i / PageStore.PAGE, i % PageStore.PAGE);
        }
        return bytes;
    }
}
