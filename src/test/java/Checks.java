/** Counts and tells what was not as due; each test makes one of its own. */
final class Checks {
    /** A call that is asked for its answer or its exception. */
    interface Call {
        Object answer();
    }

    private final String test;
    private int right = 0;
    private int wrong = 0;

    Checks(String test) {
        this.test = test;
    }

    void equal(String what, Object got, Object due) {
        if (due.equals(got)) {
            right++;
        } else {
            wrong++;
            System.out.println(test + ": " + what + " answered " + got + ", due is " + due);
        }
    }

    /** The answer of a call, or the name of the exception that it throws. */
    static String outcome(Call call) {
        try {
            return String.valueOf(call.answer());
        } catch (RuntimeException thrown) {
            return "throws " + thrown.getClass().getSimpleName();
        }
    }

    void outOfBounds(String what, Call call) {
        equal(what, outcome(call), "throws IndexOutOfBoundsException");
    }

    void badArgument(String what, Call call) {
        equal(what, outcome(call), "throws IllegalArgumentException");
    }

    void badState(String what, Call call) {
        equal(what, outcome(call), "throws IllegalStateException");
    }

    void noElement(String what, Call call) {
        equal(what, outcome(call), "throws NoSuchElementException");
    }

    /** Checks that a call with the due exception leaves the state as it was. */
    void changesNothing(String what, EndVersions rows, Call call) {
        long before = rows.digest();
        boolean throwsOne = outcome(call).startsWith("throws ");
        equal(what + " throws", throwsOne, true);
        equal("the digest after " + what, rows.digest(), before);
    }

    void end() {
        System.out.println(test + ": " + right + " checks right, " + wrong + " wrong");
        if (wrong > 0) {
            System.exit(1);
        }
    }
}
