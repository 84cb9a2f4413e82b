/** Counts and prints the answers that are not as due. */
final class Check {
    interface Call {
        long answer();
    }

    static final long INDEX = Long.MIN_VALUE + 1;
    static final long ARGUMENT = Long.MIN_VALUE + 2;
    static final long STATE = Long.MIN_VALUE + 3;

    private int wrong;
    private long made;

    /** The answer of a call; INDEX, ARGUMENT or STATE if it throws exactly such an exception. */
    static long outcome(Call call) {
        try {
            return call.answer();
        } catch (RuntimeException e) {
            if (e.getClass() == IndexOutOfBoundsException.class) {
                return INDEX;
            }
            if (e.getClass() == IllegalArgumentException.class) {
                return ARGUMENT;
            }
            if (e.getClass() == IllegalStateException.class) {
                return STATE;
            }
            throw e;
        }
    }

    void due(String what, long want, Call call) {
        same(what, want, outcome(call));
    }

    void same(String what, long want, long got) {
        made++;
        if (got != want) {
            wrong++;
            System.out.println(what + ": answered " + told(got) + ", due is " + told(want));
        }
    }

    boolean isClean() {
        return wrong == 0;
    }

    void end(String name) {
        System.out.println(name + ": " + made + " answers, " + wrong + " not as due");
        if (wrong != 0) {
            System.exit(1);
        }
    }

    private static String told(long answer) {
        return answer == INDEX ? "throws.IndexOutOfBoundsException"
                : answer == ARGUMENT ? "throws.IllegalArgumentException"
                : answer == STATE ? "throws.IllegalStateException" : Long.toString(answer);
    }
}
