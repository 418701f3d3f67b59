/** Part 2 of the Terms and promises 5 to 15: each sentence of the document that names an edge, from both of its sides. */
public final class DoneEdgeTest {
    /** Two skins of six lines, and a text of one line for each kind and ink, in pairs of soot and gall. */
    private static final String INKS = "skin s lines 6 thick 30;skin o lines 6 thick 30;"
        + "text cs charter soot lines 1;text cg charter gall lines 1;text os oath soot lines 1;text og oath gall lines 1;";
    /** Two skins, texts of 1, 2, 3 and 6 lines; all shows. */
    private static final String SIZES = "skin s lines 6 thick 30;skin o lines 5 thick 9;"
        + "text one charter soot lines 1;text two charter soot lines 2;text three charter soot lines 3;"
        + "text six charter soot lines 6;shows 1;";
    private static final Check CHECK = new Check();

    public static void main(String[] args) {
        calls512();
        skin();
        text();
        layers();
        layer();
        read();
        writeWhere();
        writeOpenAndNine();
        writeOnOneGone();
        scrapeSomewhere();
        scrapeWears();
        third();
        gone();
        week();
        undoLast16();
        undoAllOfThese();
        refusedIsNothing();
        readWhat();
        whole();
        judgedFrom();
        judgedFirst();
        judgedWhat();
        CHECK.end("DoneEdgeTest");
    }

    private static void says(String words) {
        CHECK.says(words);
    }

    private static void due(String call, long want, long got) {
        CHECK.due(call, want, got);
    }

    private static void due(String call, boolean want, boolean got) {
        CHECK.due(call, want, got);
    }

    private static void calls512() {
        says("An object is used for at most 512 calls after it has been made");
        WornSkin x = new WornSkin();
        for (int call = 1; call <= 511; call++) {
            due("week", call, x.week());
        }
        due("the last one", 511, x.count(2));
    }

    private static void skin() {
        says("Of a SKIN, what 0: lines, 1: how thick, 2: holes, as bits, 3: lines in which one lies open, as bits,"
            + " 4: lines in which something is READ, as bits; NONE: others.");
        WornSkin x = Check.withLibrary("skin a lines 1 thick 1;skin b lines 6 thick 30;skin c lines 6 thick 2;"
            + "hole c 0;hole c 1;hole c 2;hole c 3;hole c 4;hole c 5;"
            + "text t charter soot lines 6;text u charter soot lines 1;shows wet;damp 0 1;");
        due("the fewest lines", 1, x.skin(0, 0));
        due("the most lines", 6, x.skin(1, 0));
        due("1 thick", 1, x.skin(0, 1));
        due("30 thick", 30, x.skin(1, 1));
        due("no holes", 0, x.skin(1, 2));
        due("all holes", 63, x.skin(2, 2));
        due("none open", 0, x.skin(1, 3));
        due("none read", 0, x.skin(1, 4));
        x.write(0, 1, 0);
        due("all open", 63, x.skin(1, 3));
        due("all read", 63, x.skin(1, 4));
        x.third(1);
        due("all but 0 and 3 open", 0b110110, x.skin(1, 3));
        due("0 and 3 don't show by damp 0", 0b110110, x.skin(1, 4));
        x.scrape(1);
        due("none open", 0, x.skin(1, 3));
        due("none read", 0, x.skin(1, 4));
        x.week();
        due("none open by damp 1", 0, x.skin(1, 3));
        due("all read by damp 1", 63, x.skin(1, 4));
        x.write(1, 0, 0);
        x.scrape(0);
        due("gone: lines", 1, x.skin(0, 0));
        due("gone: thick", 0, x.skin(0, 1));
        due("gone: open", 0, x.skin(0, 3));
        due("gone: read", 0, x.skin(0, 4));
        for (int wrong : Check.beyond(3)) {
            for (int what = 0; what <= 4; what++) {
                due("skin " + wrong, -1, x.skin(wrong, what));
            }
        }
        for (int wrong : Check.beyond(5)) {
            due("what " + wrong, -1, x.skin(1, wrong));
        }
        WornSkin y = Check.withLibrary("skin a lines 1 thick 1;");
        due("a second one is not told", -1, y.skin(1, 1));
    }

    private static void text() {
        says("Of a TEXT, what 0: KIND (0 charter, 1 psalm, 2 recipe, 3 oath), 1: 1 gall, 2: lines, 3: 1 WHOLE, 4: MADE; -2: others.");
        WornSkin x = Check.withLibrary("skin a lines 6 thick 9;skin b lines 6 thick 9;skin c lines 6 thick 9;"
            + "text t charter soot lines 6;text u oath gall lines 1;");
        due("the least kind", 0, x.text(0, 0));
        due("the last kind", 3, x.text(1, 0));
        due("soot", 0, x.text(0, 1));
        due("gall", 1, x.text(1, 1));
        due("the most lines", 6, x.text(0, 2));
        due("the fewest lines", 1, x.text(1, 2));
        due("not whole", 0, x.text(0, 3));
        due("made nowhere", 0, x.text(0, 4));
        for (int skin = 0; skin < 3; skin++) {
            x.write(0, skin, 0);
            due("whole", 1, x.text(0, 3));
            due("made", 6 * skin + 6, x.text(0, 4));
        }
        x.third(0);
        says("MADE: how many lines in all READ a TEXT.");
        due("four of six lines and twelve", 16, x.text(0, 4));
        x.write(1, 0, 3);
        due("one", 1, x.text(1, 4));
        says("Of a TEXT, what 0: KIND (0 charter, 1 psalm, 2 recipe, 3 oath), 1: 1 gall, 2: lines, 3: 1 WHOLE, 4: MADE; -2: others.");
        for (int wrong : Check.beyond(2)) {
            for (int what = 0; what <= 4; what++) {
                due("text " + wrong, -2, x.text(wrong, what));
            }
        }
        for (int wrong : Check.beyond(5)) {
            due("what " + wrong, -2, x.text(0, wrong));
        }
    }

    private static void layers() {
        says("A line's LAYERS: the TEXTS that were ever WRITTEN on it, from below; the uppermost one lies open,"
            + " or is scraped as all others are.");
        WornSkin y = Check.withLibrary(SIZES);
        y.write(2, 0, 0);
        y.scrape(0);
        y.write(1, 0, 1);
        due("the lower one", 2, y.layer(0, 1, 0));
        due("the uppermost one", 1, y.layer(0, 1, 1));
        due("lies open, where it is", 0b000110, y.skin(0, 3));
        y.scrape(0);
        due("is scraped", 0, y.skin(0, 3));
        due("both stay", 2, y.layers(0, 1));
        due("one stays", 1, y.layers(0, 0));

        says("LAYERS of a line, how many; NONE: others.");
        WornSkin x = Check.withLibrary(SIZES + "hole o 4;");
        due("none", 0, x.layers(0, 0));
        due("a hole", 0, x.layers(1, 4));
        for (int n = 1; n <= 9; n++) {
            x.write(0, 0, 5);
            due("open", n, x.layers(0, 5));
            x.scrape(0);
            due("scraped", n, x.layers(0, 5));
        }
        due("beside it", 0, x.layers(0, 4));
        x.write(0, 1, 0);
        for (int wrong : Check.beyond(6)) {
            due("line " + wrong, -1, x.layers(0, wrong));
            due("line " + wrong, -1, x.layers(1, wrong));
        }
        due("beyond the last one of a shorter skin", -1, x.layers(1, 5));
        for (int wrong : Check.beyond(2)) {
            due("skin " + wrong, -1, x.layers(wrong, 0));
        }
    }

    private static void layer() {
        says("The i-th LAYER from below (from 0); NONE: others, none such.");
        WornSkin x = Check.withLibrary("skin s lines 2 thick 30;skin o lines 2 thick 3;text a charter soot lines 1;"
            + "text b psalm soot lines 1;text c recipe soot lines 1;text d charter soot lines 1;"
            + "text e psalm soot lines 1;text f recipe soot lines 1;");
        due("none yet", -1, x.layer(0, 0, 0));
        int[] order = {5, 0, 4, 1, 3, 2, 5, 5, 0};
        for (int text : order) {
            x.write(text, 0, 1);
            x.scrape(0);
        }
        for (int i = 0; i < 9; i++) {
            due("layer " + i, order[i], x.layer(0, 1, i));
        }
        due("the other line", -1, x.layer(0, 0, 0));
        for (int wrong : Check.beyond(9)) {
            due("layer " + wrong, -1, x.layer(0, 1, wrong));
        }
        for (int wrong : Check.beyond(2)) {
            due("line " + wrong, -1, x.layer(0, wrong, 0));
            due("skin " + wrong, -1, x.layer(wrong, 1, 0));
        }
    }

    private static void read() {
        says("READ; NONE: others, nothing.");
        WornSkin x = Check.withLibrary(SIZES);
        due("nothing", -1, x.read(0, 0));
        x.write(0, 0, 5);
        x.write(0, 1, 0);
        due("the last line", 0, x.read(0, 5));
        due("beside it nothing", -1, x.read(0, 4));
        for (int wrong : Check.beyond(6)) {
            due("line " + wrong, -1, x.read(0, wrong));
        }
        due("beyond the last one of a shorter skin", -1, x.read(1, 5));
        for (int wrong : Check.beyond(2)) {
            due("skin " + wrong, -1, x.read(wrong, 0));
        }
    }

    private static void writeWhere() {
        says("from a line on, on as many lines as it has: none beyond the last one");
        WornSkin x = Check.withLibrary(SIZES);
        due("the last line", true, x.write(0, 0, 5));
        due("beyond it", false, x.write(0, 0, 6));
        due("two lines reach beyond", false, x.write(1, 1, 4));
        due("two lines reach the last", true, x.write(1, 1, 3));
        due("these two", 0b11000, x.skin(1, 3));
        due("three ahead of these", true, x.write(2, 1, 0));
        due("six on five", false, Check.withLibrary(SIZES).write(3, 1, 0));
        due("six on six", true, Check.withLibrary(SIZES).write(3, 0, 0));
        due("six from 1 on", false, Check.withLibrary(SIZES).write(3, 0, 1));
        WornSkin y = Check.withLibrary(SIZES);
        for (int wrong : Check.beyond(6)) {
            for (int text = 0; text < 4; text++) {
                due("line " + wrong, false, y.write(text, 0, wrong));
            }
        }
        for (int wrong : Check.beyond(4)) {
            due("text " + wrong, false, y.write(wrong, 0, 0));
        }
        for (int wrong : Check.beyond(2)) {
            due("skin " + wrong, false, y.write(0, wrong, 0));
        }
        due("nothing was written", 0, y.count(6));

        says("a hole");
        WornSkin z = Check.withLibrary(SIZES + "hole s 2;hole o 0;hole o 4;");
        due("in it", false, z.write(0, 0, 2));
        due("its last line in it", false, z.write(2, 0, 0));
        due("its second of three in it", false, z.write(2, 0, 1));
        due("its first line in it", false, z.write(2, 0, 2));
        due("behind it", true, z.write(2, 0, 3));
        due("ahead of it", true, z.write(1, 0, 0));
        due("in the first line", false, z.write(0, 1, 0));
        due("in the last line", false, z.write(0, 1, 4));
        due("between", true, z.write(2, 1, 1));
    }

    private static void writeOpenAndNine() {
        says("with one that lies open");
        WornSkin x = Check.withLibrary(SIZES);
        x.write(1, 0, 2);
        due("its last line", false, x.write(2, 0, 0));
        due("its first line", false, x.write(1, 0, 3));
        due("the same", false, x.write(1, 0, 2));
        due("within", false, x.write(0, 0, 3));
        due("ahead of it", true, x.write(1, 0, 0));
        due("behind it", true, x.write(1, 0, 4));
        x.third(0);
        due("where it is scraped", true, x.write(0, 0, 3));
        due("where it lies open still", false, x.write(0, 0, 2));

        says("or with 9 LAYERS");
        WornSkin y = Check.withLibrary(SIZES);
        for (int n = 1; n <= 9; n++) {
            due("the layer " + n, true, y.write(0, 0, 3));
            y.scrape(0);
        }
        due("a tenth", false, y.write(0, 0, 3));
        due("its last line", false, y.write(2, 0, 1));
        due("its first line", false, y.write(2, 0, 3));
        due("behind it", true, y.write(1, 0, 4));
        due("ahead of it", true, y.write(2, 0, 0));
        due("still nine", 9, y.layers(0, 3));
    }

    private static void writeOnOneGone() {
        says("WRITE: a TEXT on a SKIN that is not GONE");
        WornSkin x = Check.withLibrary("skin a lines 1 thick 2;text t charter soot lines 1;");
        due("2 thick", true, x.write(0, 0, 0));
        due("1 thick", 1, x.scrape(0));
        due("1 thick", true, x.write(0, 0, 0));
        due("gone", 0, x.scrape(0));
        due("gone", false, x.write(0, 0, 0));
        due("it is there again", true, x.undo());
        x.undo();
        due("it is there again", true, x.write(0, 0, 0));
    }

    private static void scrapeSomewhere() {
        says("SCRAPE a SKIN on which one lies open somewhere");
        WornSkin x = Check.withLibrary(INKS);
        due("nowhere", -1, x.scrape(0));
        x.write(0, 1, 0);
        due("on the other one alone", -1, x.scrape(0));
        x.write(0, 0, 5);
        due("in its last line", 29, x.scrape(0));
        due("no more", -1, x.scrape(0));
        due("how thick it is stays", 29, x.skin(0, 1));
        x.write(0, 0, 0);
        due("in its first line", 28, x.scrape(0));

        says("all that lie open are scraped then");
        for (int line = 0; line < 6; line++) {
            x.write(0, 0, line);
        }
        due("six", 63, x.skin(0, 3));
        due("six", 27, x.scrape(0));
        due("none", 0, x.skin(0, 3));
        due("the layers stay", 2, x.layers(0, 5));
        due("the other skin stays", 1, x.skin(1, 3));

        says("SCRAPE: how thick it is then; NONE: others, it can't be.");
        for (int wrong : Check.beyond(2)) {
            due("skin " + wrong, -1, x.scrape(wrong));
            due("skin " + wrong, -1, x.third(wrong));
        }
    }

    private static void scrapeWears() {
        says("the SKIN is 1 less thick, 1 less if one of these is of gall, 1 less if one is an oath");
        // By texts (soot, gall, oath of soot, oath of gall), as bits, each in a line of its own.
        int[] less = {0, 1, 2, 2, 2, 2, 3, 3, 3, 3, 3, 3, 3, 3, 3, 3};
        for (int texts = 1; texts < 16; texts++) {
            WornSkin x = Check.withLibrary(INKS);
            for (int text = 0; text < 4; text++) {
                if ((texts >> text & 1) != 0) {
                    x.write(text, 0, 5 - text);
                }
            }
            due("of the texts " + texts, 30 - less[texts], x.scrape(0));
            due("the other one stays", 30, x.skin(1, 1));
        }
        WornSkin y = Check.withLibrary(INKS);
        for (int line = 0; line < 6; line++) {
            y.write(1, 0, line);
        }
        due("six of gall", 28, y.scrape(0));
        y.write(0, 0, 0);
        due("what lies under is not one of these", 27, y.scrape(0));
    }

    private static void third() {
        says("THIRD: likewise, of its lines 0 and 3 alone");
        WornSkin x = Check.withLibrary(INKS);
        due("nowhere", -1, x.third(0));
        for (int line : new int[] {1, 2, 4, 5}) {
            x.write(3, 0, line);
        }
        due("in no one of these", -1, x.third(0));
        due("nothing is done", 30, x.skin(0, 1));
        x.write(0, 0, 0);
        due("in line 0: the others don't count", 29, x.third(0));
        due("the others lie open", 0b110110, x.skin(0, 3));
        x.write(0, 0, 3);
        due("in line 3", 28, x.third(0));
        x.write(1, 0, 0);
        x.write(2, 0, 3);
        due("in both, of gall and an oath", 25, x.third(0));
        x.write(3, 0, 0);
        due("both in one", 22, x.third(0));
        due("no more", -1, x.third(0));
        due("all of it can be", 19, x.scrape(0));

        WornSkin y = Check.withLibrary("skin s lines 3 thick 9;skin o lines 1 thick 9;skin n lines 4 thick 9;text t charter soot lines 1;");
        y.write(0, 0, 2);
        due("three lines have no line 3", -1, y.third(0));
        y.write(0, 1, 0);
        due("one line", 8, y.third(1));
        y.write(0, 2, 3);
        due("the last of four", 8, y.third(2));
    }

    private static void gone() {
        says("A SKIN that is 0 thick, or less, is GONE: 0 thick, nothing is on it.");
        int[] left = {0, 0, 0, 1, 2};
        for (int thick = 1; thick <= 5; thick++) {
            for (int way = 0; way < 2; way++) {
                WornSkin x = Check.withLibrary("skin a lines 6 thick " + thick + ";skin b lines 6 thick 9;text t oath gall lines 1;"
                    + "text u psalm soot lines 1;shows 1;");
                x.write(0, 0, 0);
                x.write(1, 0, 5);
                x.write(0, 1, 0);
                boolean lost = thick <= 3;
                due(thick + " thick by 3 less", left[thick - 1], way == 0 ? x.scrape(0) : x.third(0));
                due("as thick", left[thick - 1], x.skin(0, 1));
                due("gone", lost ? 1 : 0, x.count(5));
                due("on it", lost ? 0 : 1, x.layers(0, 5));
                due("open", lost || way == 0 ? 0 : 32, x.skin(0, 3));
                due("read", lost ? -1 : 0, x.read(0, 0));
                due("read", lost ? 0 : 33, x.skin(0, 4));
                due("all layers", lost ? 1 : 3, x.count(6));
                due("nothing to scrape", lost || way == 0 ? -1 : left[thick - 1] - 1, x.scrape(0));
                due("together", left[thick - 1] + 9 - (lost || way == 0 ? 0 : 1), x.count(4));
            }
        }
    }

    private static void week() {
        says("WEEK: the next one begins.");
        WornSkin y = Check.withLibrary(SIZES);
        y.write(0, 0, 0);
        y.week();
        due("by it alone nothing is scraped", 1, y.skin(0, 3));
        due("by it alone none is less thick", 39, y.count(4));
        due("it can be undone", 2, y.count(10));
        says("WEEK: the one that begins.");
        WornSkin x = Check.withLibrary("damp 3 0 9;");
        due("the first", 1, x.week());
        due("its damp", 0, x.count(3));
        due("the second", 2, x.week());
        due("its damp", 9, x.count(3));
        due("the third", 3, x.week());
        due("the first damp again", 3, x.count(3));
        due("a new library", 0, Check.readLibrary(x, "damp 1 2;"));
        due("from the first on", 1, x.week());
    }

    private static void undoLast16() {
        says("UNDO: all of these, the last 16, one by one");
        for (int deeds = 0; deeds <= 40; deeds += deeds == 14 || deeds == 15 || deeds == 16 ? 1 : 2) {
            WornSkin x = new WornSkin();
            for (int i = 0; i < deeds; i++) {
                x.week();
            }
            int kept = Math.min(16, deeds);
            due("of " + deeds, kept, x.count(10));
            for (int i = 1; i <= kept; i++) {
                due("undone of " + deeds, true, x.undo());
                due("one by one", deeds - i, x.count(2));
                due("so many are left", kept - i, x.count(10));
            }
            due("no more of " + deeds, false, x.undo());
            due("then nothing is done", deeds - kept, x.count(2));
            due("a week can be again", deeds - kept + 1, x.week());
            due("and be undone", true, x.undo());
            due("it alone", false, x.undo());
        }
        WornSkin x = new WornSkin();
        for (int i = 0; i < 20; i++) {
            x.week();
        }
        for (int i = 0; i < 5; i++) {
            x.undo();
        }
        due("16 less 5", 11, x.count(10));
        for (int i = 0; i < 7; i++) {
            x.week();
        }
        due("16 again", 16, x.count(10));
        for (int i = 0; i < 16; i++) {
            due("undone", true, x.undo());
        }
        due("22 less 16", 6, x.count(2));
        due("no more", false, x.undo());
    }

    private static void undoAllOfThese() {
        says("UNDO: true; false: nothing can be.");
        WornSkin x = Check.withLibrary("skin s lines 5 thick 30;text cs charter soot lines 1;text og oath gall lines 1;"
            + "damp 1 2;shows wet=2;");
        String[] pictures = new String[6];
        pictures[0] = Check.picture(x);
        x.write(1, 0, 0);
        pictures[1] = Check.picture(x);
        x.write(0, 0, 4);
        pictures[2] = Check.picture(x);
        x.third(0);
        pictures[3] = Check.picture(x);
        x.scrape(0);
        pictures[4] = Check.picture(x);
        x.week();
        for (int i = 4; i >= 0; i--) {
            due("undone", true, x.undo());
            CHECK.duePicture("as ahead of the deed " + i, pictures[i], x);
        }
        due("nothing can be", false, x.undo());
        CHECK.duePicture("as at first", pictures[0], x);

        WornSkin y = Check.withLibrary("skin a lines 6 thick 1;text t charter soot lines 2;text u oath gall lines 1;");
        y.write(0, 0, 0);
        y.write(1, 0, 3);
        String ahead = Check.picture(y);
        y.third(0);
        due("one gone", 1, y.count(5));
        due("undone", true, y.undo());
        CHECK.duePicture("is there with all that was on it", ahead, y);
        due("what is seen is no deed", true, y.see(0, 1, 1, false));
        due("a year is no deed", 0, Check.readYear(y, "week;"));
        due("a mark is no deed", true, y.mark(0, false));
        due("a writing is undone", true, y.undo());
        due("what is seen stays", 1, y.count(9));
        due("the year stays", 1, y.count(8));
        due("a writing is undone", true, y.undo());
        due("no more", false, y.undo());
    }

    private static void refusedIsNothing() {
        says("WRITE: true; false: others, it can't be.");
        WornSkin x = Check.withLibrary(SIZES + "hole s 5;");
        x.write(1, 0, 1);
        String ahead = Check.picture(x);
        due("on one that lies open", false, x.write(2, 0, 0));
        due("on a hole", false, x.write(1, 0, 4));
        due("beyond", false, x.write(1, 1, 4));
        due("others", false, x.write(4, 0, 0));
        CHECK.duePicture("nothing is written", ahead, x);
        says("THIRD: likewise.");
        due("nothing in 0 and 3", -1, x.third(0));
        due("nothing at all", -1, x.third(1));
        due("nothing at all", -1, x.scrape(1));
        due("others", -1, x.scrape(2));
        CHECK.duePicture("nothing is done", ahead, x);
        due("the writing alone can be undone", true, x.undo());
        due("the writing alone can be undone", false, x.undo());
    }

    private static void readWhat() {
        says("READ in a line: what lies open; else the uppermost LAYER for which the E of shows is not 0; if there is none, nothing.");
        String skins = "skin s lines 2 thick 30;text a charter soot lines 1;text b psalm soot lines 1;text c recipe gall lines 1;";
        WornSkin none = written(skins + "shows 0;");
        due("for none", -1, none.read(0, 0));
        none.write(1, 0, 0);
        due("what lies open needs no law", 1, none.read(0, 0));
        WornSkin all = written(skins + "shows 1;");
        due("the uppermost of all", 2, all.read(0, 0));
        all.write(1, 0, 0);
        due("what lies open", 1, all.read(0, 0));
        due("below 0 is not 0", 2, written(skins + "shows 0-1;").read(0, 0));
        due("the lowest alone", 0, written(skins + "shows deep=3;").read(0, 0));
        due("the middle one and the lowest", 1, written(skins + "shows 1<deep;").read(0, 0));
        due("the middle one alone", 1, written(skins + "shows wet;").read(0, 0));
        due("the other line", -1, written(skins + "shows 1;").read(0, 1));
        due("by how thick it is", 0, written(skins + "shows thin=26 and deep=3;").read(0, 0));
    }

    /** The texts 0, 1 and 2 are written in line 0 and scraped, one behind the other. */
    private static WornSkin written(String library) {
        WornSkin x = Check.withLibrary(library);
        for (int text = 0; text < 3; text++) {
            x.write(text, 0, 0);
            x.scrape(0);
        }
        return x;
    }

    private static void whole() {
        says("A TEXT is WHOLE if it is READ in as many lines one behind another of some SKIN as it has.");
        WornSkin x = Check.withLibrary(SIZES);
        due("not written", 0, x.count(7));
        x.write(2, 0, 3);
        due("three of three, the last ones", 4, x.count(7));
        x.scrape(0);
        due("scraped, but all show", 4, x.count(7));
        x.write(0, 0, 5);
        due("two of three", 1, x.count(7));
        x.undo();
        x.write(0, 0, 4);
        due("two of three, one between", 1, x.count(7));
        x.undo();
        x.write(0, 0, 2);
        due("one ahead of it", 5, x.count(7));

        WornSkin y = Check.withLibrary(SIZES);
        y.write(3, 0, 0);
        due("six of six", 8, y.count(7));
        y.scrape(0);
        y.write(0, 0, 0);
        due("five of six", 1, y.count(7));

        WornSkin halves = Check.withLibrary(SIZES);
        halves.write(1, 0, 4);
        halves.write(1, 1, 0);
        halves.scrape(0);
        halves.scrape(1);
        halves.write(0, 0, 4);
        halves.write(0, 1, 1);
        due("the last line of one skin, the first of the next", 1, halves.count(7));

        WornSkin middle = Check.withLibrary(SIZES);
        middle.write(1, 0, 0);
        middle.write(1, 0, 2);
        middle.scrape(0);
        middle.write(0, 0, 0);
        middle.write(0, 0, 3);
        due("the halves of two writings, one behind the other", 3, middle.count(7));

        WornSkin third = Check.withLibrary(SIZES.replace("shows 1;", ""));
        third.write(1, 0, 0);
        third.write(1, 0, 3);
        due("open", 2, third.count(7));
        third.third(0);
        due("lines 1 and 4 alone", 0, third.count(7));
        due("two lines are made", 2, third.text(1, 4));
        third.write(0, 0, 2);
        due("another one between", 1, third.count(7));

        WornSkin six = Check.withLibrary("skin s lines 6 thick 9;text a charter soot lines 1;text b charter soot lines 1;"
            + "text c charter soot lines 1;text d charter soot lines 1;text e charter soot lines 1;text f charter soot lines 1;");
        for (int text = 0; text < 6; text++) {
            six.write(text, 0, text);
        }
        due("all six", 63, six.count(7));
    }

    private static void judgedFrom() {
        says("JUDGED: the YEAR from the beginning (a line that can't be is left out; a week always can)");
        WornSkin x = Check.withLibrary("skin a lines 2 thick 2;text t charter soot lines 1;text u charter soot lines 1;damp 0 9;");
        due("no line", -1, x.judged(0));
        due("no line", -1, x.judged(1));
        due("no line", 0, x.judged(2));
        Check.readYear(x, "write t a 0;write u a 0;write u a 1;");
        x.write(1, 0, 0);
        x.scrape(0);
        x.write(1, 0, 0);
        x.week();
        String ahead = Check.picture(x);
        due("what is there now is not there", 1, x.judged(0));
        due("none gone", -1, x.judged(1));
        due("both whole: the second line is left out", 2, x.judged(2));
        CHECK.duePicture("nothing is done", ahead, x);
        Check.readYear(x, "write t a 0;scrape a;week;");
        due("week 1 is damp", 1, x.judged(2));
        Check.readYear(x, "write t a 0;scrape a;week;week;");
        due("week 2 is not", 0, x.judged(2));
        due("a week always can", -1, x.judged(0));
        Check.readYear(x, "week;".repeat(40));
        due("40 weeks can", -1, x.judged(0));

        says("JUDGED, what 0, 1: lines (NONE: none), 2: how many; -2: others.");
        for (int wrong : Check.beyond(3)) {
            due("what " + wrong, -2, x.judged(wrong));
        }
    }

    private static void judgedFirst() {
        says("the first line (from 0) that can't be; the first one by which a SKIN is GONE; how many TEXTS are WHOLE at last");
        String skins = "skin a lines 2 thick 1;skin b lines 2 thick 1;text t charter soot lines 1;text u charter soot lines 2;";
        WornSkin x = Check.withLibrary(skins);
        Check.readYear(x, "scrape a;scrape b;");
        due("the very first can't be", 0, x.judged(0));
        Check.readYear(x, "third a;");
        due("the very first can't be", 0, x.judged(0));
        Check.readYear(x, "write t a 2;");
        due("beyond", 0, x.judged(0));
        Check.readYear(x, "write u a 1;");
        due("beyond", 0, x.judged(0));
        Check.readYear(x, "week;".repeat(39) + "scrape a;");
        due("the last of 40 can't be", 39, x.judged(0));
        Check.readYear(x, "week;".repeat(38) + "write t b 0;scrape b;");
        due("by the last of 40", 39, x.judged(1));
        due("all could be", -1, x.judged(0));
        due("none is whole", 0, x.judged(2));
        Check.readYear(x, "write t a 0;write t b 0;third b;scrape a;write t a 0;");
        due("the first that goes", 2, x.judged(1));
        due("then it can't be written on", 4, x.judged(0));
        Check.readYear(x, "write t a 0;third a;write t a 0;scrape a;third a;");
        due("a third can do it", 1, x.judged(1));
        due("what was gone can't be scraped", 2, x.judged(0));
        Check.readYear(x, "write t a 0;write u b 0;");
        due("both", 2, x.judged(2));
        Check.readYear(x, "write t a 0;write t b 0;");
        due("one, twice", 1, x.judged(2));
    }

    private static void judgedWhat() {
        says("the first line (from 0) that can't be; the first one by which a SKIN is GONE; how many TEXTS are WHOLE at last");
        WornSkin x = Check.withLibrary("skin a lines 6 thick 1;skin b lines 1 thick 1;skin c lines 6 thick 3;"
            + "text one oath gall lines 1;text two charter soot lines 2;text tri charter soot lines 3;"
            + "text four charter soot lines 4;text five charter soot lines 5;text six charter soot lines 6;");
        Check.readYear(x, "write one a 1;third a;week;");
        due("third: lines 0 and 3 alone", 1, x.judged(0));
        due("so none is gone", -1, x.judged(1));
        due("so it lies open", 1, x.judged(2));
        Check.readYear(x, "write one a 1;scrape a;week;");
        due("scrape: all lines", -1, x.judged(0));
        due("so it is gone", 1, x.judged(1));
        due("so none is whole", 0, x.judged(2));
        Check.readYear(x, "write six a 0;write five a 0;write five c 1;write tri c 0;write one c 0;");
        due("as many lines as each has", 1, x.judged(0));
        due("those that could be", 3, x.judged(2));
        Check.readYear(x, "write one b 0;write two b 0;");
        due("two lines on one", 1, x.judged(0));
        Check.readYear(x, "write two a 0;write two a 2;write two a 4;write one a 5;");
        due("three of two lines", 3, x.judged(0));
        Check.readYear(x, "write four a 0;write two a 4;write two c 0;write four c 2;");
        due("four and two", -1, x.judged(0));
        due("four and two", 2, x.judged(2));
        Check.readYear(x, "write one c 5;scrape c;");
        due("of gall, an oath: 3 thick is gone", 1, x.judged(1));
        Check.readYear(x, "write two c 4;scrape c;write two c 4;scrape c;write two c 4;scrape c;");
        due("by 1 each it is gone the third time", 5, x.judged(1));
    }
}
