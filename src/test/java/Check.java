/** Compares answers with those that are due, and tells at the end whether all were. */
final class Check {
    /** A call of the class; one without an answer gives 0. */
    interface Call {
        long answer();
    }

    /** A call that answers nothing. */
    interface Act {
        void run();
    }

    private String sentence = "";
    private int looked = 0;
    private int wrong = 0;

    /** The test of one sentence of the document; its words go before what it finds to be wrong. */
    void sentence(String words, Act test) {
        sentence = words + " | ";
        int before = looked;
        try {
            test.run();
        } catch (RuntimeException e) {
            same("the test", "throws." + e.getClass().getSimpleName(), "0");
        }
        if (looked == before) {
            same("the test", "no answer looked at", "some");
        }
        sentence = "";
    }

    void is(String what, long got, long due) {
        same(what, Long.toString(got), Long.toString(due));
    }

    void same(String what, String got, String due) {
        looked++;
        if (!got.equals(due)) {
            wrong++;
            System.out.println(sentence + what + " answered " + got + ", due is " + due);
        }
    }

    void fine(String what, Act act) {
        same(what, told(act), "0");
    }

    private void throwsIt(String what, Class<? extends RuntimeException> due, Act act) {
        same(what, told(act), "throws." + due.getSimpleName());
    }

    void state(String what, Act act) {
        throwsIt(what, IllegalStateException.class, act);
    }

    void index(String what, Act act) {
        throwsIt(what, IndexOutOfBoundsException.class, act);
    }

    void argument(String what, Act act) {
        throwsIt(what, IllegalArgumentException.class, act);
    }

    void power(String what, Act act) {
        throwsIt(what, ArithmeticException.class, act);
    }

    static String told(Act act) {
        return answer(() -> {
            act.run();
            return 0;
        });
    }

    /** The answer as a text, or the name of what is thrown behind "throws.". */
    static String answer(Call call) {
        try {
            return Long.toString(call.answer());
        } catch (RuntimeException e) {
            return "throws." + e.getClass().getSimpleName();
        }
    }

    /** Ends the program with exit code 1 if an answer was wrong, or none was looked at. */
    void end() {
        System.out.println(looked + " answers looked at, " + wrong + " wrong");
        if (wrong != 0 || looked == 0) {
            System.exit(1);
        }
    }
}
