/** Counts the answers that are not as due; a test's main ends with report(). */
final class Check {
    interface Call {
        void run();
    }

    private static int looked = 0;
    private static int wrong = 0;

    private Check() {
    }

    static void same(String what, long got, long due) {
        looked++;
        if (got != due) {
            miss(what + " answered " + got + ", due is " + due);
        }
    }

    static void same(String what, double got, double due) {
        looked++;
        if (got != due) {
            miss(what + " answered " + got + ", due is " + due);
        }
    }

    static void same(String what, String got, String due) {
        looked++;
        if (!got.equals(due)) {
            miss(what + " is " + got + ", due is " + due);
        }
    }

    /** The call throws just this class, by the program's own throw; the digest of the object is the same behind it. */
    static void refuses(SundogLine line, Class<? extends RuntimeException> due, String what, Call call) {
        long before = line.digest();
        looked++;
        try {
            call.run();
            miss(what + " threw nothing, due is " + due.getSimpleName());
        } catch (RuntimeException thrown) {
            if (thrown.getClass() != due) {
                miss(what + " threw " + thrown.getClass().getSimpleName() + ", due is " + due.getSimpleName());
            }
            if (!isThrownIn(thrown, "SundogLine")) {
                miss(what + " threw what the library throws");
            }
        }
        if (line.digest() != before) {
            miss(what + " threw and changed something");
        }
    }

    /** What a list throws by itself may be of the class that is due; where it was made tells it apart. */
    static boolean isThrownIn(RuntimeException thrown, String className) {
        StackTraceElement[] trace = thrown.getStackTrace();
        return trace.length > 0 && trace[0].getClassName().equals(className);
    }

    static void report() {
        System.out.println(looked + " answers looked at, " + wrong + " not as due");
        if (wrong != 0 || looked == 0) {
            System.exit(1);
        }
    }

    private static void miss(String text) {
        wrong++;
        if (wrong <= 40) {
            System.out.println("  " + text);
        }
    }
}
