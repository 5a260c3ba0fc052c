/** Counts and prints what is not as due; the tests of this project share it. */
final class Check {
    /** A call that may throw; its answer is a double. */
    interface Call {
        double answer();
    }

    private static int wrong = 0;
    private static int asked = 0;
    private static int shown = 0;
    private static String sentence = "";

    private Check() {
    }

    /** Asks all that the test of one sentence of the document asks; what it throws ends that test alone. */
    static void sentence(String words, Runnable test) {
        sentence = words + "\n  ";
        shown = 0;
        try {
            test.run();
        } catch (RuntimeException e) {
            report("ended with " + e);
        }
    }

    static void that(String what, boolean holds) {
        asked++;
        if (!holds) {
            report(what + " does not hold");
        }
    }

    static void same(String what, long got, long due) {
        asked++;
        if (got != due) {
            report(what + " answered " + got + ", due is " + due);
        }
    }

    static void same(String what, double got, double due) {
        asked++;
        if (!(got == due)) {
            report(what + " answered " + got + ", due is " + due);
        }
    }

    /** The same double, and the same zero where it is one. */
    static void sameBits(String what, double got, double due) {
        asked++;
        if (Double.doubleToLongBits(got) != Double.doubleToLongBits(due)) {
            report(what + " answered " + got + ", due is " + due);
        }
    }

    static void near(String what, double got, double due) {
        asked++;
        double slack = 1e-12 * (due > 1.0 ? due : 1.0);
        if (!(got - due <= slack && due - got <= slack)) {
            report(what + " answered " + got + ", due is about " + due);
        }
    }

    /** Exactly this class of exception, thrown by a throw statement of PathOdds itself. */
    static void throwsExactly(String what, Class<? extends RuntimeException> due, Call call) {
        asked++;
        try {
            report(what + " answered " + call.answer() + ", due is " + due.getName());
        } catch (RuntimeException e) {
            if (e.getClass() != due) {
                report(what + " threw " + e.getClass().getName() + ", due is " + due.getName());
            } else if (!e.getStackTrace()[0].getClassName().equals("PathOdds")) {
                report(what + " let the library or the machine throw");
            }
        }
    }

    static void end() {
        System.out.println(wrong == 0 ? asked + " answers are as due" : wrong + " of " + asked + " are not as due");
        if (wrong != 0 || asked == 0) {
            System.exit(1);
        }
    }

    private static void report(String line) {
        wrong++;
        shown++;
        if (shown <= 50) {
            System.out.println(sentence + line);
        }
    }
}
