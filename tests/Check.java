/** Counts answers that are not the ones due, and tells each. */
final class Check {
    private final String test;
    private int asked;
    private int wrong;

    Check(String test) {
        this.test = test;
    }

    void due(String call, long got, long want) {
        asked++;
        if (got != want) {
            wrong++;
            System.out.println(test + ": " + call + " answered " + got + ", due is " + want);
        }
    }

    void holds(String what, boolean so) {
        asked++;
        if (!so) {
            wrong++;
            System.out.println(test + ": " + what);
        }
    }

    void end() {
        System.out.println(test + ": " + asked + " answers, " + wrong + " wrong");
        if (wrong != 0 || asked == 0) {
            System.exit(1);
        }
    }

    /** Puts a text on the tape and reads it. */
    static int tell(DreamNets x, String text) {
        lay(x, text);
        return x.harbour();
    }

    static void lay(DreamNets x, String text) {
        if (text.length() > 200) {
            throw new IllegalArgumentException("a tape has 200 bytes at most: " + text);
        }
        for (int from = 0; from < text.length(); from += 8) {
            x.feed(eight(text, from), Math.min(8, text.length() - from));
        }
    }

    /** The bytes of a text from a place on, eight at most, the first the lowest. */
    static long eight(String text, int from) {
        long eight = 0;
        for (int i = 0; i < 8 && from + i < text.length(); i++) {
            eight |= (long) (text.charAt(from + i) & 255) << (8 * i);
        }
        return eight;
    }

    /** A new object in which no one sleeps, so that nothing is born of nothing. */
    static DreamNets still() {
        DreamNets x = new DreamNets();
        for (int street = 0; street < 8; street++) {
            x.sleep(street, 5, 0);
        }
        return x;
    }
}
