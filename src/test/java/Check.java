/** Counts the answers that are not as due and prints each of them. */
final class Check {
    interface Call {
        Object run();
    }

    private final String about;
    private int wrong;

    Check(String about) {
        this.about = about;
    }

    void same(String what, Object got, Object due) {
        if (!due.equals(got)) {
            wrong++;
            System.out.println(about + ": " + what + " answered " + got + ", due is " + due);
        }
    }

    void fails(String what, Class<? extends RuntimeException> due, Call call) {
        same(what, outcome(call), "throws " + due.getSimpleName());
    }

    /** The answer of a call, or the name of the exception that it throws. */
    static Object outcome(Call call) {
        try {
            return call.run();
        } catch (RuntimeException e) {
            // the class is to see a divisor of 0 itself; the machine's other exceptions have names of their own
            String by = "/ by zero".equals(e.getMessage()) ? "throws by the machine " : "throws ";
            return by + e.getClass().getSimpleName();
        }
    }

    int wrong() {
        return wrong;
    }

    /** Ends the program with 1 if something was wrong. */
    void close() {
        System.out.println(about + ": " + (wrong == 0 ? "all answers are as due" : wrong + " answers are not as due"));
        if (wrong != 0) {
            System.exit(1);
        }
    }
}
