/** Counts the answers that were due and those that were not, and tells of the latter. */
final class Check {
    private static int passed = 0;
    private static int failed = 0;

    private Check() {
    }

    static void same(String what, long got, long want) {
        if (got == want) {
            passed++;
        } else {
            failed++;
            System.out.println(what + " answered " + got + ", due is " + want);
        }
    }

    static void same(String what, String got, String want) {
        same(what + ", " + got, got.equals(want), true);
    }

    static void same(String what, boolean got, boolean want) {
        same(what, got ? 1 : 0, want ? 1 : 0);
    }

    /** The answer of a call, and the status behind it. */
    static void same(String what, RankedRing x, long got, long want, int status) {
        same(what, got, want);
        same(what + ", its status", x.status(), status);
    }

    static void refused(String what, RankedRing x, long got, int status) {
        same(what, x, got, RankedRing.NONE, status);
    }

    static void refused(String what, RankedRing x, boolean got, int status) {
        same(what, got, false);
        same(what + ", its status", x.status(), status);
    }

    static void done(String what, RankedRing x, boolean got) {
        same(what, got, true);
        same(what + ", its status", x.status(), 0);
    }

    /** What is on its way, by way(0), way(1) and so on; what is not told has none. */
    static void way(String when, RankedRing x, int... due) {
        for (int what = 0; what < 10; what++) {
            if (what < due.length) {
                same(when + ", way " + what, x, x.way(what), due[what], 0);
            } else {
                refused(when + ", way " + what, x, x.way(what), 6);
            }
        }
    }

    static void end(String name) {
        System.out.println(name + ": " + passed + " passed, " + failed + " failed");
        if (failed > 0) {
            System.exit(1);
        }
    }
}
