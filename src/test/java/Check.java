// Counts what was as due and prints what was not; a test ends with end().
final class Check {
    interface Call {
        void run();
    }

    private final String name;
    private int passed;
    private int failed;

    Check(String name) {
        this.name = name;
    }

    void same(String what, long got, long due) {
        count(got == due, what + " answered " + got + ", due is " + due);
    }

    void same(String what, boolean got, boolean due) {
        count(got == due, what + " answered " + got + ", due is " + due);
    }

    void same(String what, double got, double due) {
        count(Double.compare(got, due) == 0, what + " answered " + got + ", due is " + due);
    }

    // The call throws just this exception, and changes nothing.
    void refuses(Switchyard x, String what, Class<? extends RuntimeException> due, Call call) {
        long before = x.digest();
        String got = "nothing";
        try {
            call.run();
        } catch (RuntimeException e) {
            got = e.getClass().getSimpleName();
        }
        count(got.equals(due.getSimpleName()), what + " threw " + got + ", due is " + due.getSimpleName());
        same(what + " leaves digest()", x.digest(), before);
    }

    void noSuch(Switchyard x, String what, Call call) {
        refuses(x, what, IndexOutOfBoundsException.class, call);
    }

    void wrong(Switchyard x, String what, Call call) {
        refuses(x, what, IllegalArgumentException.class, call);
    }

    void notNow(Switchyard x, String what, Call call) {
        refuses(x, what, IllegalStateException.class, call);
    }

    // several runs of ModelTest go on at once
    synchronized void count(boolean isAsDue, String what) {
        if (isAsDue) {
            passed++;
        } else {
            failed++;
            if (failed <= 20) {
                System.out.println(name + ": " + what);
            }
        }
    }

    void end() {
        System.out.println(name + ": " + passed + " passed, " + failed + " failed");
        if (failed > 0 || passed == 0) {
            System.exit(1);
        }
    }
}
