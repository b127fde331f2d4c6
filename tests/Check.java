/** Counts answers that are not the ones due, and tells each. */
final class Check {
    private final String test;
    private int asked;
    private int wrong;

    Check(String test) {
        this.test = test;
    }

    void due(String call, long got, long want) {
        asked++;
        if (got != want) {
            wrong++;
            System.out.println(test + ": " + call + " answered " + got + ", due is " + want);
        }
    }

    void holds(String what, boolean so) {
        asked++;
        if (!so) {
            wrong++;
            System.out.println(test + ": " + what);
        }
    }

    void end() {
        System.out.println(test + ": " + asked + " answers, " + wrong + " wrong");
        if (wrong != 0 || asked == 0) {
            System.exit(1);
        }
    }

    /** Puts a text on the tape and reads it. */
    static int tell(DreamNets x, String text) {
        lay(x, text);
        return x.harbour();
    }

    static void lay(DreamNets x, String text) {
        for (int from = 0; from < text.length(); from += 8) {
            int n = Math.min(8, text.length() - from);
            long eight = 0;
            for (int i = 0; i < n; i++) {
                eight |= (long) (text.charAt(from + i) & 255) << (8 * i);
            }
            x.feed(eight, n);
        }
    }
}
