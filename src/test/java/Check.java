/** Compares answers with those that are due, and tells at the end whether all were. */
final class Check {
    /** A call of the class; one without an answer gives 0. */
    interface Call {
        long answer();
    }

    /** A call that answers nothing. */
    interface Act {
        void run();
    }

    private int looked = 0;
    private int wrong = 0;

    void is(String what, long got, long due) {
        same(what, Long.toString(got), Long.toString(due));
    }

    void same(String what, String got, String due) {
        looked++;
        if (!got.equals(due)) {
            wrong++;
            System.out.println(what + " answered " + got + ", due is " + due);
        }
    }

    void fine(String what, Act act) {
        same(what, told(act), "0");
    }

    void throwsIt(String what, Class<? extends RuntimeException> due, Act act) {
        same(what, told(act), "throws." + due.getSimpleName());
    }

    static String told(Act act) {
        return told(() -> {
            act.run();
            return 0;
        });
    }

    /** The answer as a text, or the name of what is thrown behind "throws.". */
    static String told(Call call) {
        try {
            return Long.toString(call.answer());
        } catch (RuntimeException e) {
            return "throws." + e.getClass().getSimpleName();
        }
    }

    /** Ends the program with exit code 1 if an answer was wrong, or none was looked at. */
    void end() {
        System.out.println(looked + " answers looked at, " + wrong + " wrong");
        if (wrong != 0 || looked == 0) {
            System.exit(1);
        }
    }
}
