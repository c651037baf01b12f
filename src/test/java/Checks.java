/** Counts checks and prints those whose answer is not the one that is due. */
final class Checks {
    interface Call {
        void run();
    }

    private int made = 0;
    private int wrong = 0;

    void same(String what, long due, long got) {
        made++;
        if (got != due) {
            report(what + " answered " + got + ", due is " + due);
        }
    }

    void same(String what, boolean due, boolean got) {
        same(what, due ? 1 : 0, got ? 1 : 0);
    }

    /** The very class is due: an ArrayIndexOutOfBoundsException would be a fault of the program itself. */
    void refuses(String what, Class<? extends RuntimeException> due, Call call) {
        made++;
        try {
            call.run();
        } catch (RuntimeException thrown) {
            if (thrown.getClass() != due) {
                report(what + " threw " + thrown + ", due is " + due.getName());
            }
            return;
        }
        report(what + " threw nothing, due is " + due.getName());
    }

    void report(String text) {
        wrong++;
        System.out.println(text);
    }

    void end() {
        System.out.println(made + " checks, " + wrong + " wrong");
        if (wrong != 0 || made == 0) {
            System.exit(1);
        }
    }
}
