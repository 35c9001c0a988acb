/** Counts the answers that are not as due; a test's main method ends with finish(). */
final class Expect {
    interface Act {
        void run();
    }

    private static int wrong = 0;

    private Expect() {
    }

    static void answer(String what, long got, long due) {
        if (got != due) {
            tell(what + " answered " + got + ", due is " + due);
        }
    }

    static void answer(String what, boolean got, boolean due) {
        answer(what, got ? 1 : 0, due ? 1 : 0);
    }

    static void answer(String what, String got, String due) {
        if (!got.equals(due)) {
            tell(what + " answered " + got + ", due is " + due);
        }
    }

    static void thrown(String what, Class<? extends RuntimeException> due, Act act) {
        Class<?> got = null;
        try {
            act.run();
        } catch (RuntimeException e) {
            got = e.getClass();
            thrownByTheGatewayItself(what, e);
        }
        if (got != due) {
            tell(what + " threw " + got + ", due is " + due);
        }
    }

    /** A list without a look at its index throws the same class, so the class alone does not tell. */
    static void thrownByTheGatewayItself(String what, RuntimeException e) {
        StackTraceElement[] trace = e.getStackTrace();
        if (trace.length == 0 || !trace[0].getClassName().equals("TollGateway")) {
            tell(what + " threw by itself: " + e);
        }
    }

    static void tell(String fault) {
        wrong++;
        System.out.println("  " + fault);
    }

    static void finish() {
        System.out.println(wrong == 0 ? "  as due" : "  " + wrong + " not as due");
        if (wrong != 0) {
            System.exit(1);
        }
    }
}
