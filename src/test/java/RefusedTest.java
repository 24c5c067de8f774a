import java.util.ArrayList;
import java.util.List;
import java.util.function.ToLongFunction;

/**
 * The last sentence under 'Terms': which exception is thrown, and that a call that throws changes
 * nothing. Each call of the face, with right and wrong numbers, is made in each state that a store can
 * be in; where it throws, the store must then answer like a twin that was never asked.
 */
public final class RefusedTest {
    private static final String STATE = "throws.IllegalStateException";
    private static final String INDEX = "throws.IndexOutOfBoundsException";
    private static final String ARGUMENT = "throws.IllegalArgumentException";
    private static final int STATES = 6;
    private static final int ENDINGS = 4;
    private static final int[][] SAID = {{4, 0, 0}, {0, 1, 9}, {1, 0, 9}, {2, 0, 0}, {2, 1, 0}, {3, 0, 9}};

    private static final Check CHECK = new Check();

    public static void main(String[] args) {
        CHECK.sentence("Terms: the one named first in its heading is thrown", RefusedTest::namedFirst);
        CHECK.sentence("Terms: a call that throws changes nothing", RefusedTest::changesNothing);
        CHECK.sentence("Terms: a call that throws changes nothing, with MOST", RefusedTest::changesNothingWithMost);
        CHECK.end();
    }

    /** A call, and what it throws on two pages: if a transaction with five marks is open, if none is. */
    private record Call(String name, String inOne, String inNone, String off, ToLongFunction<PageStore> of) {
    }

    private static List<Call> calls() {
        List<Call> calls = new ArrayList<>();
        calls.add(new Call("pages()", "", "", STATE, x -> x.pages()));
        calls.add(new Call("add()", "", STATE, STATE, x -> x.add()));
        calls.add(new Call("get(1, 255)", "", "", STATE, x -> x.get(1, 255)));
        calls.add(new Call("get(-1, 0)", INDEX, INDEX, STATE, x -> x.get(-1, 0)));
        calls.add(new Call("get(99, 0)", INDEX, INDEX, STATE, x -> x.get(99, 0)));
        calls.add(new Call("get(0, 256)", INDEX, INDEX, STATE, x -> x.get(0, 256)));
        calls.add(new Call("put(1, 0, 7)", "", STATE, STATE, x -> x.put(1, 0, 7)));
        calls.add(new Call("put(99, 0, 7)", INDEX, STATE, STATE, x -> x.put(99, 0, 7)));
        calls.add(new Call("put(0, -1, 7)", INDEX, STATE, STATE, x -> x.put(0, -1, 7)));
        calls.add(new Call("put(0, 256, 7)", INDEX, STATE, STATE, x -> x.put(0, 256, 7)));
        calls.add(new Call("sum(1)", "", "", STATE, x -> x.sum(1)));
        calls.add(new Call("sum(99)", INDEX, INDEX, STATE, x -> x.sum(99)));
        calls.add(new Call("begin()", STATE, "", STATE, act(PageStore::begin)));
        calls.add(new Call("commit()", "", STATE, STATE, act(PageStore::commit)));
        calls.add(new Call("rollback()", "", STATE, STATE, act(PageStore::rollback)));
        calls.add(new Call("mark()", STATE, STATE, STATE, x -> x.mark()));
        calls.add(new Call("reopen()", "", "", "", x -> x.reopen()));
        addMoves(calls);
        addMarks(calls);
        addArguments(calls);
        return calls;
    }

    private static void addMoves(List<Call> calls) {
        calls.add(new Call("move(0, 0, 1, 0, 9)", "", STATE, STATE, move(0, 0, 1, 0, 9)));
        calls.add(new Call("move(0, 0, 1, 0, -1)", INDEX, STATE, STATE, move(0, 0, 1, 0, -1)));
        calls.add(new Call("move(0, 0, 1, 0, 257)", INDEX, STATE, STATE, move(0, 0, 1, 0, 257)));
        calls.add(new Call("move(0, -1, 1, 0, 9)", INDEX, STATE, STATE, move(0, -1, 1, 0, 9)));
        calls.add(new Call("move(0, 0, 1, 250, 9)", INDEX, STATE, STATE, move(0, 0, 1, 250, 9)));
        calls.add(new Call("move(0, 250, 1, 0, 9)", INDEX, STATE, STATE, move(0, 250, 1, 0, 9)));
        calls.add(new Call("move(99, 0, 1, 0, 9)", INDEX, STATE, STATE, move(99, 0, 1, 0, 9)));
        calls.add(new Call("move(0, 0, 99, 0, 0)", INDEX, STATE, STATE, move(0, 0, 99, 0, 0)));
    }

    private static void addMarks(List<Call> calls) {
        for (int m : new int[] {-1, 0, 1, 5, 6}) {
            String inOne = m == 1 || m == 5 ? "" : INDEX;
            calls.add(new Call("back(" + m + ")", inOne, STATE, STATE, act(x -> x.back(m))));
            calls.add(new Call("keep(" + m + ")", inOne, STATE, STATE, act(x -> x.keep(m))));
        }
    }

    /** These are refused in all states, whatever else is wrong. */
    private static void addArguments(List<Call> calls) {
        int[][] wrong = {{-1, 0, 0}, {5, 0, 0}, {0, -1, 0}, {2, 1001, 0}, {3, 0, -1}, {4, 0, 301}, {5, -1, 301}};
        for (int[] w : wrong) {
            String name = "power(" + w[0] + ", " + w[1] + ", " + w[2] + ")";
            calls.add(new Call(name, ARGUMENT, ARGUMENT, ARGUMENT, act(x -> x.power(w[0], w[1], w[2]))));
        }
        for (int what : new int[] {-1, 4}) {
            calls.add(new Call("told(" + what + ")", ARGUMENT, ARGUMENT, ARGUMENT, x -> x.told(what)));
        }
    }

    private interface Act {
        void on(PageStore x);
    }

    private static ToLongFunction<PageStore> act(Act act) {
        return x -> {
            act.on(x);
            return 0;
        };
    }

    private static ToLongFunction<PageStore> move(int p, int from, int q, int to, int n) {
        return act(x -> x.move(p, from, q, to, n));
    }

    private static String thrown(Call call, PageStore x) {
        String answer = Check.answer(() -> call.of().applyAsLong(x));
        return answer.startsWith("throws.") ? answer : "";
    }

    private static void namedFirst() {
        for (Call call : calls()) {
            CHECK.same(call.name() + " in a transaction", thrown(call, Stores.marked()), call.inOne());
            CHECK.same(call.name() + " in none", thrown(call, Stores.lasting(2)), call.inNone());
            CHECK.same(call.name() + " if it is off", thrown(call, Stores.off(2)), call.off());
        }
        // commit names two as well: where it is refused, power does not fail.
        PageStore x = Stores.lasting(2);
        x.power(0, 0, 0);
        CHECK.state("commit() in none, as power is to fail", x::commit);
        PageStore y = Stores.off(2);
        y.power(0, 0, 0);
        CHECK.state("commit() if it is off, as power is to fail", y::commit);
    }

    /** One of the states that a store can be in, with what power is then said. */
    private static PageStore state(int kind, int[] said) {
        PageStore x = kind == 0 ? new PageStore() : Stores.marked();
        switch (kind) {
            case 1:
                x.commit();
                break;
            case 2:
                x.back(3);
                break;
            case 3:
                Stores.failCommit(x);
                break;
            case 4:
                Stores.failCommit(x);
                x.power(3, 0, 100);
                Check.told(x::reopen);
                break;
            default:
                break;
        }
        x.power(said[0], said[1], said[2]);
        return x;
    }

    private static void changesNothing() {
        for (int kind = 0; kind < STATES; kind++) {
            for (int[] said : SAID) {
                for (Call call : calls()) {
                    for (int ending = 0; ending < ENDINGS; ending++) {
                        PageStore asked = state(kind, said);
                        String thrown = thrown(call, asked);
                        if (!thrown.isEmpty() && !thrown.equals("throws.ArithmeticException")) {
                            String what = call.name() + " in state " + kind + " with power(" + said[0] + ", ..)";
                            CHECK.same(what, ending(asked, ending), ending(state(kind, said), ending));
                        }
                    }
                }
            }
        }
    }

    /** The answers to a row of calls that brings to light what a store holds, each row another part. */
    private static String ending(PageStore x, int kind) {
        List<String> answers = new ArrayList<>();
        answers.add(Stores.seen(x));
        if (kind == 1) {
            for (int m = 5; m >= 1; m--) {
                int mark = m;
                look(x, answers, () -> x.back(mark));
            }
            look(x, answers, x::rollback);
        }
        if (kind == 2) {
            look(x, answers, x::commit);
            look(x, answers, x::reopen);
        }
        if (kind == 3) {
            look(x, answers, x::begin);
            look(x, answers, x::mark);
            look(x, answers, x::add);
        }
        look(x, answers, x::commit);
        look(x, answers, x::reopen);
        look(x, answers, x::reopen);
        return answers.toString();
    }

    private static void look(PageStore x, List<String> answers, Check.Act act) {
        answers.add(Check.told(act));
        answers.add(Stores.seen(x));
    }

    private static void changesNothingWithMost() {
        PageStore x = Stores.opened(PageStore.MOST);
        x.put(PageStore.MOST - 1, 0, 1);
        String before = Stores.seen(x);
        CHECK.state("add()", x::add);
        CHECK.same("what is seen", Stores.seen(x), before);
        x.commit();
        CHECK.is("reopen()", x.reopen(), PageStore.MOST);
    }
}
