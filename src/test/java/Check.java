/** Counts calls whose answer is not the one that is due, and prints each of them. */
final class Check {

    interface Call {
        long answer();
    }

    interface Deed {
        void run();
    }

    private String part = "";
    private int passed;
    private int failed;

    void part(String name) {
        part = name;
    }

    void answers(long due, String call, Call made) {
        try {
            long got = made.answer();
            judge(got == due, call + " answered " + got + ", due is " + due);
        } catch (RuntimeException e) {
            judge(false, call + " threw " + e + ", due is " + due);
        }
    }

    void refuses(Class<? extends RuntimeException> due, String call, Deed made) {
        try {
            made.run();
            judge(false, call + " was not refused, due is " + due.getSimpleName());
        } catch (RuntimeException e) {
            judge(e.getClass() == due, call + " threw " + e + ", due is " + due.getSimpleName());
        }
    }

    void holds(boolean held, String what) {
        judge(held, what);
    }

    void end() {
        System.out.println(passed + " passed, " + failed + " failed");
        if (failed != 0) {
            System.exit(1);
        }
    }

    private void judge(boolean right, String told) {
        if (right) {
            passed++;
        } else {
            failed++;
            System.out.println(part + ": " + told);
        }
    }
}
