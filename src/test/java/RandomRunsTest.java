import java.lang.reflect.InvocationTargetException;
import java.util.ArrayList;
import java.util.Arrays;
import java.util.List;
import java.util.Random;

/** Runs of 512 calls, from fixed seeds, against a model that copies all pages at every step. */
public final class RandomRunsTest {
    private static final int RUNS = 3000;
    private static final int CALLS = 512;
    private static final int LOOKS = 16;

    private static final Check CHECK = new Check();

    public static void main(String[] args) {
        for (int seed = 1; seed <= RUNS; seed++) {
            run(seed);
        }
        CHECK.end();
    }

    private static void run(int seed) {
        Random random = new Random(seed);
        PageStore x = new PageStore();
        Model model = new Model();
        int calls = 0;
        // Some are left for looking at the end.
        while (calls < CALLS - LOOKS) {
            both(seed, x, model, pick(random));
            calls++;
        }
        for (int what = 0; what < 4; what++) {
            both(seed, x, model, new Call("told", what));
        }
        for (int p = 0; p < LOOKS - 4; p++) {
            both(seed, x, model, new Call("sum", p));
        }
    }

    private static void both(int seed, PageStore x, Model model, Call call) {
        CHECK.same("seed " + seed + ": " + call, call.of(x), call.of(model));
    }

    /** A call that is mostly fine where a transaction is open, and sometimes wrong. */
    private static Call pick(Random random) {
        int p = random.nextInt(12) - 1;
        int q = random.nextInt(12) - 1;
        int m = random.nextInt(7);
        int kind = random.nextInt(100);
        if (kind < 6) return new Call("add");
        if (kind < 30) return new Call("put", p, near(random), random.nextInt(1000) - 500);
        if (kind < 44) return new Call("move", p, near(random), q, near(random), near(random));
        if (kind < 50) return new Call("get", p, near(random));
        if (kind < 54) return new Call("sum", p);
        if (kind < 64) return new Call("begin");
        if (kind < 70) return new Call("commit");
        if (kind < 72) return new Call("rollback");
        if (kind < 80) return new Call("mark");
        if (kind < 85) return new Call("back", m);
        if (kind < 90) return new Call("keep", m);
        if (kind < 94) return new Call("power", random.nextInt(6), q, near(random));
        if (kind < 97) return new Call("reopen");
        if (kind < 99) return new Call("told", random.nextInt(5));
        return new Call("pages");
    }

    /** Mostly within a page, sometimes at its edges or beyond them. */
    private static int near(Random random) {
        switch (random.nextInt(12)) {
            case 0:
                return 0;
            case 1:
                return 255 + random.nextInt(3);
            case 2:
                return -1;
            default:
                return random.nextInt(130);
        }
    }

    /** A call by its name, so that one choice is done on both the class and the model. */
    private static final class Call {
        private final String name;
        private final Object[] args;
        private final Class<?>[] types;

        Call(String name, Integer... args) {
            this.name = name;
            this.args = args;
            types = new Class<?>[args.length];
            Arrays.fill(types, int.class);
        }

        String of(Object target) {
            try {
                Object answer = target.getClass().getDeclaredMethod(name, types).invoke(target, args);
                return String.valueOf(answer);
            } catch (InvocationTargetException e) {
                return "throws." + e.getCause().getClass().getSimpleName();
            } catch (ReflectiveOperationException e) {
                throw new AssertionError(e);
            }
        }

        @Override
        public String toString() {
            return name + Arrays.toString(args);
        }
    }

    /** The document's words with copies of everything in place of files and layers. */
    private static final class Model {
        private List<int[]> now = new ArrayList<>();
        private List<int[]> lasting = new ArrayList<>();
        private final List<List<int[]>> marks = new ArrayList<>();
        private boolean on = true;
        private boolean open = false;
        private int made = 0;
        private int when = 4;
        private int k = 0;

        private static List<int[]> copy(List<int[]> pages) {
            List<int[]> copy = new ArrayList<>();
            for (int[] page : pages) {
                copy.add(page.clone());
            }
            return copy;
        }

        private void state(boolean fine) {
            if (!fine) {
                throw new IllegalStateException();
            }
        }

        private void index(boolean fine) {
            if (!fine) {
                throw new IndexOutOfBoundsException();
            }
        }

        private boolean within(int v, int low, int high) {
            return v >= low && v <= high;
        }

        private void end() {
            now = copy(lasting);
            marks.clear();
            open = false;
        }

        int pages() {
            state(on);
            return now.size();
        }

        int add() {
            state(on && open && now.size() < PageStore.MOST);
            now.add(new int[PageStore.PAGE]);
            return now.size() - 1;
        }

        int get(int p, int at) {
            state(on);
            index(within(p, 0, now.size() - 1) && within(at, 0, 255));
            return now.get(p)[at];
        }

        int put(int p, int at, int v) {
            state(on && open);
            int was = get(p, at);
            now.get(p)[at] = v & 255;
            return was;
        }

        void move(int p, int from, int q, int to, int n) {
            state(on && open);
            index(within(p, 0, now.size() - 1) && within(q, 0, now.size() - 1) && within(n, 0, 256));
            index(within(from, 0, 256 - n) && within(to, 0, 256 - n));
            int[] was = now.get(p).clone();
            for (int i = 0; i < n; i++) {
                now.get(q)[to + i] = was[from + i];
            }
        }

        long sum(int p) {
            get(p, 0);
            long s = 7;
            for (int v : now.get(p)) {
                s = 31 * s + v;
            }
            return s;
        }

        void begin() {
            state(on && !open);
            open = true;
        }

        void commit() {
            state(on && open);
            boolean fails = when <= 2;
            if (!fails || when == 2 && k > 0) {
                lasting = copy(now);
                made++;
            }
            when = 4;
            end();
            on = !fails;
            if (fails) {
                throw new ArithmeticException();
            }
        }

        void rollback() {
            state(on && open);
            end();
        }

        int mark() {
            state(on && open && marks.size() < 5);
            marks.add(copy(now));
            return marks.size();
        }

        void back(int m) {
            state(on && open);
            index(within(m, 1, marks.size()));
            now = copy(marks.get(m - 1));
            marks.subList(m, marks.size()).clear();
        }

        void keep(int m) {
            state(on && open);
            index(within(m, 1, marks.size()));
            marks.subList(m - 1, marks.size()).clear();
        }

        void power(int newWhen, int newK, int b) {
            if (!within(newWhen, 0, 4) || !within(newK, 0, 1000) || !within(b, 0, 300)) {
                throw new IllegalArgumentException();
            }
            when = newWhen;
            k = newK;
        }

        int reopen() {
            boolean fails = when == 3;
            when = 4;
            end();
            on = !fails;
            if (fails) {
                throw new ArithmeticException();
            }
            return now.size();
        }

        int told(int what) {
            if (!within(what, 0, 3)) {
                throw new IllegalArgumentException();
            }
            return what == 0 ? (on ? 1 : 0) : what == 1 ? (open ? 1 : 0) : what == 2 ? marks.size() : made;
        }
    }
}
