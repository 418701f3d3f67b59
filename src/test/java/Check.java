import java.util.NoSuchElementException;

/** What the tests share: feeding a text, and telling what is not as due. */
final class Check {
    private int wrong = 0;
    private int asked = 0;
    private int sentences = 0;
    private String sentence = "";

    /** The document's words to which the answers from here on are due. */
    void says(String words) {
        sentences++;
        sentence = "\"" + words + "\": ";
    }

    static WornSkin withLibrary(String library) {
        WornSkin x = new WornSkin();
        int fault = readLibrary(x, library);
        if (fault != 0) {
            throw new IllegalStateException("fault " + fault + " in " + library);
        }
        return x;
    }

    static int readLibrary(WornSkin x, String library) {
        feed(x, library);
        return x.library();
    }

    static int readYear(WornSkin x, String year) {
        feed(x, year);
        return x.year();
    }

    /** Zero bytes are left out by the tape, so the last call is filled up with them. */
    static void feed(WornSkin x, String signs) {
        for (int at = 0; at < signs.length(); at += 24) {
            x.feed(eight(signs, at), eight(signs, at + 8), eight(signs, at + 16));
        }
    }

    static long eight(String signs, int from) {
        long bytes = 0;
        for (int i = from; i < from + 8; i++) {
            bytes = bytes << 8 | (i < signs.length() ? signs.charAt(i) & 255 : 0);
        }
        return bytes;
    }

    /** Numbers on both sides beyond 0 .. count - 1. */
    static int[] beyond(int count) {
        return new int[] {Integer.MIN_VALUE, -6, -2, -1, count, count + 1, count + 6, 64, Integer.MAX_VALUE};
    }

    /** what rests answers; -100 where it throws NoSuchElementException. */
    static int rests(WornSkin x, int lose, int reads, int waits, int what) {
        try {
            return x.rests(lose, reads, waits, what);
        } catch (NoSuchElementException none) {
            return -100;
        }
    }

    /** The FAULT's place is where the sign ^ stands; the sign itself is not fed. Without it: no FAULT is due. */
    void dueLibrary(int kind, String marked) {
        due("library " + marked, markedFault(kind, marked), readLibrary(new WornSkin(), unmarked(marked)));
    }

    void dueYear(int kind, String library, String marked) {
        due("year " + marked, markedFault(kind, marked), readYear(withLibrary(library), unmarked(marked)));
    }

    private static int markedFault(int kind, String marked) {
        int at = marked.indexOf('^');
        return at < 0 ? 0 : kind + 16 * at;
    }

    private static String unmarked(String marked) {
        return marked.replace("^", "");
    }

    /** What can be seen of an object, but for its MARKS, by at most some eighty calls. */
    static String picture(WornSkin x) {
        StringBuilder all = new StringBuilder();
        for (int what = 0; what <= 11; what++) {
            all.append(x.count(what)).append(' ');
        }
        for (int skin = 0; skin < x.count(0); skin++) {
            all.append("| ").append(x.skin(skin, 1)).append(' ').append(x.skin(skin, 3)).append(": ");
            int lines = x.skin(skin, 0);
            for (int line = 0; line < lines; line++) {
                int height = x.layers(skin, line);
                all.append(height).append('/').append(x.layer(skin, line, height - 1)).append(' ');
            }
        }
        all.append("| ").append(x.who());
        for (int what = 0; what <= 2; what++) {
            all.append(' ').append(x.judged(what));
        }
        return all.toString();
    }

    void duePicture(String call, String want, WornSkin x) {
        String got = picture(x);
        due(call + ": it was " + want + ", it is " + got, true, want.equals(got));
    }

    void due(String call, long want, long got) {
        asked++;
        if (want != got) {
            wrong++;
            System.out.println(sentence + call + " answered " + got + ", due is " + want);
        }
    }

    void due(String call, boolean want, boolean got) {
        due(call, want ? 1 : 0, got ? 1 : 0);
    }

    void end(String test) {
        String by = sentences == 0 ? "" : " by " + sentences + " sentences";
        System.out.println(test + ": " + asked + " answers" + by + ", " + wrong + " not as due");
        if (wrong != 0 || asked == 0) {
            System.exit(1);
        }
    }
}
