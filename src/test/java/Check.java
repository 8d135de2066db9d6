/** Compares answers with those that are due, and counts the wrong ones. */
final class Check {
    interface Call {
        void run();
    }

    private int wrong = 0;
    private int done = 0;
    private String where = "";

    void at(String place) {
        where = place;
    }

    void due(String call, long got, long want) {
        done++;
        if (got != want) {
            tell(call + " answered " + got + ", due is " + want);
        }
    }

    void due(String call, double got, double want) {
        done++;
        if (Double.compare(got, want) != 0) {
            tell(call + " answered " + got + ", due is " + want);
        }
    }

    void due(String call, boolean got, boolean want) {
        due(call, got ? 1 : 0, want ? 1 : 0);
    }

    void differs(String call, long got, long other) {
        done++;
        if (got == other) {
            tell(call + " answered " + got + ", which it must not");
        }
    }

    /** The exception must be exactly the one that is due, and must leave the gauge as it was. */
    void refuses(String call, Class<? extends RuntimeException> want, EchoGauge gauge, Call run) {
        done++;
        long before = gauge.digest();
        Class<?> got = null;
        try {
            run.run();
        } catch (RuntimeException e) {
            got = e.getClass();
        }
        if (got != want) {
            tell(call + " threw " + got + ", due is " + want);
        }
        if (gauge.digest() != before) {
            tell(call + " changed something");
        }
    }

    void badArgument(String call, EchoGauge gauge, Call run) {
        refuses(call, IllegalArgumentException.class, gauge, run);
    }

    void badIndex(String call, EchoGauge gauge, Call run) {
        refuses(call, IndexOutOfBoundsException.class, gauge, run);
    }

    void badState(String call, EchoGauge gauge, Call run) {
        refuses(call, IllegalStateException.class, gauge, run);
    }

    private void tell(String text) {
        wrong++;
        if (wrong <= 50) {
            System.out.println(where + ": " + text);
        }
    }

    void end() {
        System.out.println(done + " checks, " + wrong + " wrong");
        if (wrong > 0 || done == 0) {
            System.exit(1);
        }
    }
}
