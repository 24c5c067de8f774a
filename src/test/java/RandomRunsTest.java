import java.util.ArrayList;
import java.util.List;
import java.util.Random;

/** Runs of 512 calls, from fixed seeds, against a model that copies all pages at every step. */
public final class RandomRunsTest {
    private static final int RUNS = 3000;
    private static final int CALLS = 512;

    private static final Check CHECK = new Check();

    public static void main(String[] args) {
        for (int seed = 1; seed <= RUNS; seed++) {
            run(seed);
        }
        CHECK.end();
    }

    private static void run(int seed) {
        Random random = new Random(seed);
        PageStore x = new PageStore();
        Model model = new Model();
        int calls = 0;
        // 16 are left for looking at the end.
        while (calls < CALLS - 16) {
            int kind = random.nextInt(100);
            int[] a = {random.nextInt(12) - 1, near(random), random.nextInt(12) - 1, near(random), near(random)};
            String call = "seed " + seed + ", call " + calls + ": ";
            CHECK.same(call + kind + " " + a[0] + " " + a[1] + " " + a[2] + " " + a[3] + " " + a[4],
                Check.told(() -> ofStore(x, kind, a)), Check.told(() -> ofModel(model, kind, a)));
            calls++;
        }
        look(seed, x, model);
    }

    private static void look(int seed, PageStore x, Model model) {
        for (int what = 0; what < 4; what++) {
            int w = what;
            CHECK.is("seed " + seed + ": told(" + w + ")", x.told(w), model.told(w));
        }
        for (int p = 0; p < 11; p++) {
            int q = p;
            CHECK.same("seed " + seed + ": sum(" + p + ")", Check.told(() -> x.sum(q)), Check.told(() -> model.sum(q)));
        }
    }

    /** Mostly within a page, sometimes at its edges or beyond them. */
    private static int near(Random random) {
        switch (random.nextInt(12)) {
            case 0:
                return 0;
            case 1:
                return 255 + random.nextInt(3);
            case 2:
                return -1;
            default:
                return random.nextInt(130);
        }
    }

    private static int some(int v, int below) {
        return Math.floorMod(v, below);
    }

    private static long ofStore(PageStore x, int kind, int[] a) {
        if (kind < 6) return x.add();
        if (kind < 30) return x.put(a[0], a[1], a[3] * 3);
        if (kind < 44) return none(() -> x.move(a[0], a[1], a[2], a[3], a[4]));
        if (kind < 50) return x.get(a[0], a[1]);
        if (kind < 54) return x.sum(a[0]);
        if (kind < 64) return none(x::begin);
        if (kind < 70) return none(x::commit);
        if (kind < 72) return none(x::rollback);
        if (kind < 80) return x.mark();
        if (kind < 85) return none(() -> x.back(some(a[0], 7)));
        if (kind < 90) return none(() -> x.keep(some(a[0], 7)));
        if (kind < 94) return none(() -> x.power(some(a[0], 6), a[2], a[1]));
        if (kind < 97) return x.reopen();
        return kind < 99 ? x.told(some(a[0], 5)) : x.pages();
    }

    private static long ofModel(Model x, int kind, int[] a) {
        if (kind < 6) return x.add();
        if (kind < 30) return x.put(a[0], a[1], a[3] * 3);
        if (kind < 44) return none(() -> x.move(a[0], a[1], a[2], a[3], a[4]));
        if (kind < 50) return x.get(a[0], a[1]);
        if (kind < 54) return x.sum(a[0]);
        if (kind < 64) return none(x::begin);
        if (kind < 70) return none(x::commit);
        if (kind < 72) return none(x::rollback);
        if (kind < 80) return x.mark();
        if (kind < 85) return none(() -> x.back(some(a[0], 7)));
        if (kind < 90) return none(() -> x.keep(some(a[0], 7)));
        if (kind < 94) return none(() -> x.power(some(a[0], 6), a[2], a[1]));
        if (kind < 97) return x.reopen();
        return kind < 99 ? x.told(some(a[0], 5)) : x.pages();
    }

    private static long none(Check.Act act) {
        act.run();
        return 0;
    }

    /** The document's words with copies of everything in place of files and layers. */
    private static final class Model {
        private List<int[]> now = new ArrayList<>();
        private List<int[]> lasting = new ArrayList<>();
        private final List<List<int[]>> marks = new ArrayList<>();
        private boolean on = true;
        private boolean open = false;
        private int made = 0;
        private int when = 4;
        private int k = 0;

        private static List<int[]> copy(List<int[]> pages) {
            List<int[]> copy = new ArrayList<>();
            for (int[] page : pages) {
                copy.add(page.clone());
            }
            return copy;
        }

        private void state(boolean fine) {
            if (!fine) {
                throw new IllegalStateException();
            }
        }

        private void index(boolean fine) {
            if (!fine) {
                throw new IndexOutOfBoundsException();
            }
        }

        private boolean within(int v, int low, int high) {
            return v >= low && v <= high;
        }

        private void end() {
            now = copy(lasting);
            marks.clear();
            open = false;
        }

        int pages() {
            state(on);
            return now.size();
        }

        int add() {
            state(on && open && now.size() < PageStore.MOST);
            now.add(new int[PageStore.PAGE]);
            return now.size() - 1;
        }

        int get(int p, int at) {
            state(on);
            index(within(p, 0, now.size() - 1) && within(at, 0, 255));
            return now.get(p)[at];
        }

        int put(int p, int at, int v) {
            state(on && open);
            int was = get(p, at);
            now.get(p)[at] = v & 255;
            return was;
        }

        void move(int p, int from, int q, int to, int n) {
            state(on && open);
            index(within(p, 0, now.size() - 1) && within(q, 0, now.size() - 1) && within(n, 0, 256));
            index(within(from, 0, 256 - n) && within(to, 0, 256 - n));
            int[] was = now.get(p).clone();
            for (int i = 0; i < n; i++) {
                now.get(q)[to + i] = was[from + i];
            }
        }

        long sum(int p) {
            get(p, 0);
            long s = 7;
            for (int v : now.get(p)) {
                s = 31 * s + v;
            }
            return s;
        }

        void begin() {
            state(on && !open);
            open = true;
        }

        void commit() {
            state(on && open);
            boolean fails = when <= 2;
            if (!fails || when == 2 && k > 0) {
                lasting = copy(now);
                made++;
            }
            when = 4;
            end();
            on = !fails;
            if (fails) {
                throw new ArithmeticException();
            }
        }

        void rollback() {
            state(on && open);
            end();
        }

        int mark() {
            state(on && open && marks.size() < 5);
            marks.add(copy(now));
            return marks.size();
        }

        void back(int m) {
            state(on && open);
            index(within(m, 1, marks.size()));
            now = copy(marks.get(m - 1));
            marks.subList(m, marks.size()).clear();
        }

        void keep(int m) {
            state(on && open);
            index(within(m, 1, marks.size()));
            marks.subList(m - 1, marks.size()).clear();
        }

        void power(int newWhen, int newK, int b) {
            if (!within(newWhen, 0, 4) || !within(newK, 0, 1000) || !within(b, 0, 300)) {
                throw new IllegalArgumentException();
            }
            when = newWhen;
            k = newK;
        }

        int reopen() {
            boolean fails = when == 3;
            when = 4;
            end();
            on = !fails;
            if (fails) {
                throw new ArithmeticException();
            }
            return now.size();
        }

        int told(int what) {
            if (!within(what, 0, 3)) {
                throw new IllegalArgumentException();
            }
            return what == 0 ? (on ? 1 : 0) : what == 1 ? (open ? 1 : 0) : what == 2 ? marks.size() : made;
        }
    }
}
