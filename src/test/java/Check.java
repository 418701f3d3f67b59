import java.util.NoSuchElementException;

/** What the tests share: feeding a text, and telling what is not as due. */
final class Check {
    private int wrong = 0;
    private int asked = 0;

    static WornSkin withLibrary(String library) {
        WornSkin x = new WornSkin();
        int fault = readLibrary(x, library);
        if (fault != 0) {
            throw new IllegalStateException("fault " + fault + " in " + library);
        }
        return x;
    }

    static int readLibrary(WornSkin x, String library) {
        feed(x, library);
        return x.library();
    }

    static int readYear(WornSkin x, String year) {
        feed(x, year);
        return x.year();
    }

    /** Zero bytes are left out by the tape, so the last call is filled up with them. */
    static void feed(WornSkin x, String signs) {
        for (int at = 0; at < signs.length(); at += 24) {
            x.feed(eight(signs, at), eight(signs, at + 8), eight(signs, at + 16));
        }
    }

    static long eight(String signs, int from) {
        long bytes = 0;
        for (int i = from; i < from + 8; i++) {
            bytes = bytes << 8 | (i < signs.length() ? signs.charAt(i) & 255 : 0);
        }
        return bytes;
    }

    /** what rests answers; -100 where it throws NoSuchElementException. */
    static int rests(WornSkin x, int lose, int reads, int waits, int what) {
        try {
            return x.rests(lose, reads, waits, what);
        } catch (NoSuchElementException none) {
            return -100;
        }
    }

    void due(String call, long want, long got) {
        asked++;
        if (want != got) {
            wrong++;
            System.out.println(call + " answered " + got + ", due is " + want);
        }
    }

    void due(String call, boolean want, boolean got) {
        due(call, want ? 1 : 0, got ? 1 : 0);
    }

    void end(String test) {
        System.out.println(test + ": " + asked + " answers, " + wrong + " not as due");
        if (wrong != 0 || asked == 0) {
            System.exit(1);
        }
    }
}
