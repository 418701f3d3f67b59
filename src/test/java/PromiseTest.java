/** Each promise of the document with answers worked out by hand: ordinary inputs, edges, wrong inputs. */
public final class PromiseTest {
    private static final int LEAST = Integer.MIN_VALUE;
    private static final int MOST = Integer.MAX_VALUE;
    /** Two skins, a text of each kind; no damp told, the law untold: deep * 2 - bite < wet. */
    private static final String PLAIN =
        "skin cod lines 6 thick 20;skin vel lines 4 thick 3;hole vel 1;"
        + "text cha charter gall lines 2;text psa psalm soot lines 3;text rec recipe soot lines 1;text oat oath gall lines 4;";
    private static final Check CHECK = new Check();

    public static void main(String[] args) {
        newObject();
        feed();
        library();
        year();
        skinAndText();
        layers();
        readByDamp();
        lawOfShows();
        write();
        nineLayers();
        scrape();
        third();
        gone();
        weekAndUndo();
        judged();
        laterAndWhen();
        needAndPsalter();
        lost();
        placeAndCost();
        lay();
        bears();
        overDeepestBareSame();
        giveup();
        seeWhoAsk();
        chance();
        rests();
        years();
        mark();
        count();
        CHECK.end("PromiseTest");
    }

    private static void due(String call, long want, long got) {
        CHECK.due(call, want, got);
    }

    private static void due(String call, boolean want, boolean got) {
        CHECK.due(call, want, got);
    }

    private static void newObject() {
        WornSkin x = new WornSkin();
        for (int what = 0; what <= 11; what++) {
            due("1 count " + what, 0, x.count(what));
        }
        due("1 skin", -1, x.skin(0, 0));
        due("1 text", -2, x.text(0, 0));
        due("1 write", false, x.write(0, 0, 0));
        due("1 undo", false, x.undo());
        due("1 no mark is there", false, x.mark(0, true));
    }

    private static void feed() {
        WornSkin x = new WornSkin();
        due("2 others are left out", 4, x.feed(0x0A1F207E7FFF80L, 0x41L << 56, 0));
        due("2 highest byte first", 4 + 12, x.feed(Check.eight("skin a l", 0), Check.eight("ines", 0), 0));
        for (int i = 0; i < 41; i++) {
            x.feed(Check.eight("aaaaaaaa", 0), Check.eight("aaaaaaaa", 0), Check.eight("aaaaaaaa", 0));
        }
        due("2 41 times 24 more", 1000, x.count(11));
        due("2 no more than 1,000", 1000, x.feed(Check.eight("aaaaaaaa", 0), 0, 0));
        WornSkin y = new WornSkin();
        Check.feed(y, " ".repeat(995) + "week;week;");
        due("2 what is beyond is left out", 0, y.year());
        due("2 one line is left", 1, y.count(8));
        WornSkin z = new WornSkin();
        z.feed(Check.eight("skin a l", 0), Check.eight("ines 1 t", 0), Check.eight("hick 2;", 0));
        due("2 in the order of a, b, c", 0, z.library());
        due("2 a skin came of it", 2, z.skin(0, 1));
    }

    private static void library() {
        WornSkin x = Check.withLibrary(PLAIN + "damp 4;");
        x.write(0, 0, 0);
        x.week();
        x.see(0, 1, 1, true);
        x.mark(1, false);
        Check.readYear(x, "week;");
        due("3 a fault", 4 + 16 * 5, Check.readLibrary(x, "damp 10;"));
        due("3 the tape is taken by a fault too", 0, x.count(11));
        due("3 all stays: week", 1, x.count(2));
        due("3 all stays: damp", 4, x.count(3));
        due("3 all stays: skins", 2, x.count(0));
        due("3 all stays: layers", 2, x.count(6));
        due("3 all stays: year", 1, x.count(8));
        due("3 all stays: seen", 1, x.count(9));
        due("3 all stays: undo", 2, x.count(10));
        due("3 all stays: mark", true, x.mark(1, true));
        Check.readYear(x, "week;");
        x.week();
        due("3 no fault", 0, Check.readLibrary(x, "skin new lines 3 thick 7;"));
        due("3 skins", 1, x.count(0));
        due("3 texts", 0, x.count(1));
        due("3 week 0", 0, x.count(2));
        due("3 thick as told", 7, x.count(4));
        due("3 nothing written", 0, x.count(6));
        due("3 no year", 0, x.count(8));
        due("3 nothing seen", 0, x.count(9));
        due("3 nothing can be undone", 0, x.count(10));
        due("3 no mark is there", false, x.mark(1, true));
        due("3 an empty tape is a library", 0, x.library());
        due("3 without skins", 0, x.count(0));
    }

    private static void year() {
        WornSkin x = Check.withLibrary(PLAIN);
        due("4 no fault", 0, Check.readYear(x, "write cha cod 0;week;"));
        due("4 lines", 2, x.count(8));
        due("4 a fault", 2 + 16 * 7, Check.readYear(x, "scrape cha;"));
        due("4 all stays", 2, x.count(8));
        due("4 the tape is taken", 0, x.count(11));
        due("4 the year itself does nothing", 0, x.count(6));
        due("4 an empty tape is a year", 0, x.year());
        due("4 of no line", 0, x.count(8));
    }

    private static void skinAndText() {
        WornSkin x = Check.withLibrary(PLAIN + "hole vel 3;damp 2;");
        due("5 lines", 4, x.skin(1, 0));
        due("5 thick", 20, x.skin(0, 1));
        due("5 holes", 10, x.skin(1, 2));
        due("5 none open", 0, x.skin(0, 3));
        x.write(0, 0, 1);
        due("5 open", 6, x.skin(0, 3));
        x.scrape(0);
        due("5 open no more", 0, x.skin(0, 3));
        due("5 read by damp", 6, x.skin(0, 4));
        due("5 another what", -1, x.skin(0, 5));
        due("5 another what", -1, x.skin(0, -1));
        due("5 another skin", -1, x.skin(2, 0));
        due("5 another skin", -1, x.skin(-1, 0));
        for (int text = 0; text < 4; text++) {
            due("6 kind", text, x.text(text, 0));
        }
        due("6 gall", 1, x.text(3, 1));
        due("6 soot", 0, x.text(1, 1));
        due("6 lines", 3, x.text(1, 2));
        due("6 whole", 1, x.text(0, 3));
        due("6 not whole", 0, x.text(1, 3));
        due("6 made", 2, x.text(0, 4));
        due("6 another what", -2, x.text(0, 5));
        due("6 another text", -2, x.text(4, 0));
        due("6 another text", -2, x.text(-1, 0));
    }

    private static void layers() {
        WornSkin x = Check.withLibrary(PLAIN);
        x.write(1, 0, 0);
        x.scrape(0);
        x.write(0, 0, 2);
        due("7 two", 2, x.layers(0, 2));
        due("7 one", 1, x.layers(0, 0));
        due("7 none", 0, x.layers(0, 5));
        due("7 a hole", 0, x.layers(1, 1));
        due("7 beyond", -1, x.layers(1, 4));
        due("7 another line", -1, x.layers(0, -1));
        due("7 another skin", -1, x.layers(2, 0));
        due("8 from below", 1, x.layer(0, 2, 0));
        due("8 above", 0, x.layer(0, 2, 1));
        due("8 none such", -1, x.layer(0, 2, 2));
        due("8 none such", -1, x.layer(0, 2, -1));
        due("8 beyond", -1, x.layer(1, 4, 0));
        due("8 another skin", -1, x.layer(LEAST, 0, 0));
    }

    /** What lies open; else the uppermost one by deep * 2 - bite < wet. */
    private static void readByDamp() {
        WornSkin x = Check.withLibrary(PLAIN + "damp 0 1 2 3 4;");
        x.write(2, 0, 0);
        x.scrape(0);
        x.write(0, 0, 0);
        due("9 open", 0, x.read(0, 0));
        x.scrape(0);
        due("9 damp 0", -1, x.read(0, 0));
        x.week();
        due("9 damp 1: 1 < 1 is not", -1, x.read(0, 0));
        x.week();
        due("9 damp 2: the charter of gall", 0, x.read(0, 0));
        x.write(1, 0, 3);
        x.scrape(0);
        due("9 damp 2: a psalm, wet 3", 1, x.read(0, 3));
        x.write(2, 0, 0);
        x.scrape(0);
        due("9 a recipe on top, deep 0", 2, x.read(0, 0));
        due("9 nothing there", -1, x.read(1, 0));
        due("9 beyond", -1, x.read(1, 4));
        due("9 another skin", -1, x.read(5, 0));
        WornSkin y = Check.withLibrary(PLAIN + "damp 3;");
        y.write(2, 0, 0);
        y.scrape(0);
        y.write(1, 0, 0);
        y.scrape(0);
        due("9 what lies over it shows first", 1, y.read(0, 0));
        WornSkin z = Check.withLibrary(PLAIN + "damp 3;shows deep=2;");
        z.write(1, 0, 0);
        z.scrape(0);
        z.write(0, 0, 0);
        z.scrape(0);
        due("9 the one under it shows through", 1, z.read(0, 0));
        due("9 alone it is not deep enough", -1, z.read(0, 2));
    }

    private static int shownBy(String law) {
        WornSkin x = Check.withLibrary("skin s lines 1 thick 9;text t charter gall lines 1;damp 4;shows " + law + ";");
        x.write(0, 0, 0);
        x.scrape(0);
        return x.read(0, 0) + 1;
    }

    /** wet 4, deep 1, bite 1, thin 7. */
    private static void lawOfShows() {
        due("9 wet", 1, shownBy("wet=4"));
        due("9 deep", 1, shownBy("deep=1"));
        due("9 bite", 1, shownBy("bite=1"));
        due("9 thin", 1, shownBy("thin=7"));
        due("9 from the left: (1 or 0) and 0", 0, shownBy("1 or 0 and 0"));
        due("9 from the left: (0 and 0) or 1", 1, shownBy("0 and 0 or 1"));
        due("9 from the left: 5 - 3 - 2", 0, shownBy("5-3-2"));
        due("9 times first", 1, shownBy("2+3*4=14"));
        due("9 in ( )", 1, shownBy("(2+3)*4=20"));
        due("9 not binds its part", 1, shownBy("not 0*2=2"));
        due("9 not of what is so", 1, shownBy("not 7=0"));
        due("9 below 0 is so", 1, shownBy("1-2"));
        due("9 of < comes 1", 1, shownBy("(1<2)=1"));
        due("9 of and comes 1", 1, shownBy("(3 and 4)=1"));
        due("9 of or comes 1", 1, shownBy("(0 or 4)=1"));
        due("9 of = comes 0", 1, shownBy("(3=4)=0"));
        due("9 not less", 0, shownBy("4<4"));
        due("9 ints wrap: 4096^3 = 2^36", 0, shownBy("4096*4096*4096"));
        due("9 ints wrap: below 0", 1, shownBy("2048*1024*1024<0"));
    }

    private static void write() {
        WornSkin x = Check.withLibrary(PLAIN);
        due("10 can be", true, x.write(0, 0, 4));
        due("10 beyond the last line", false, x.write(0, 0, 5));
        due("10 on one that lies open", false, x.write(0, 0, 3));
        due("10 a hole", false, x.write(0, 1, 0));
        due("10 a hole", false, x.write(0, 1, 1));
        due("10 behind the hole", true, x.write(0, 1, 2));
        due("10 twice the same text elsewhere", true, x.write(0, 0, 0));
        due("10 another text", false, x.write(4, 0, 2));
        due("10 another text", false, x.write(-1, 0, 2));
        due("10 another skin", false, x.write(2, 2, 0));
        due("10 another line", false, x.write(2, 0, -1));
        due("10 another line", false, x.write(2, 0, 6));
        due("10 another line", false, x.write(0, 0, MOST));
        due("10 another line", false, x.write(0, 0, LEAST));
        due("10 only three were", 6, x.count(6));
        due("10 only three can be undone", 3, x.count(10));
    }

    private static void nineLayers() {
        WornSkin x = Check.withLibrary(PLAIN);
        for (int i = 0; i < 9; i++) {
            due("10 a layer", true, x.write(2, 0, 0));
            x.scrape(0);
        }
        due("10 nine", 9, x.layers(0, 0));
        due("10 no tenth", false, x.write(2, 0, 0));
        due("20 the next line", 1, x.place(2, 0));
        due("8 the ninth", 2, x.layer(0, 0, 8));
        due("24 itself", 4, x.over(2));
    }

    private static void scrape() {
        WornSkin x = Check.withLibrary("skin s lines 6 thick 30;skin o lines 1 thick 9;"
            + "text a charter soot lines 1;text b psalm gall lines 1;text c oath soot lines 1;text d oath gall lines 1;");
        due("11 nothing lies open", -1, x.scrape(0));
        x.write(0, 0, 5);
        due("11 soot: 1 less", 29, x.scrape(0));
        due("11 nothing lies open now", -1, x.scrape(0));
        x.write(1, 0, 0);
        x.write(1, 0, 1);
        due("11 gall: 2 less, once", 27, x.scrape(0));
        x.write(2, 0, 0);
        due("11 an oath: 2 less", 25, x.scrape(0));
        x.write(3, 0, 0);
        due("11 both in one: 3 less", 22, x.scrape(0));
        x.write(1, 0, 0);
        x.write(2, 0, 1);
        due("11 both in two: 3 less", 19, x.scrape(0));
        x.write(0, 0, 2);
        due("11 what is scraped already doesn't count", 18, x.scrape(0));
        due("11 the other one stays", 9, x.skin(1, 1));
        due("11 another skin", -1, x.scrape(2));
        due("11 another skin", -1, x.scrape(-1));
    }

    private static void third() {
        WornSkin x = Check.withLibrary("skin s lines 6 thick 30;text a charter soot lines 2;text b oath gall lines 1;");
        x.write(1, 0, 1);
        x.write(1, 0, 2);
        x.write(1, 0, 4);
        due("12 nothing in 0 and 3", -1, x.third(0));
        x.write(1, 0, 0);
        due("12 line 0", 27, x.third(0));
        due("12 the others lie open", 0b010110, x.skin(0, 3));
        x.scrape(0);
        x.write(0, 0, 3);
        x.write(1, 0, 1);
        due("12 only what it scrapes counts", 23, x.third(0));
        due("12 half of it lies open", 0b010010, x.skin(0, 3));
        due("12 another skin", -1, x.third(1));
        due("12 another skin", -1, x.third(LEAST));
    }

    private static void gone() {
        WornSkin x = Check.withLibrary(PLAIN + "damp 9;");
        x.write(0, 1, 2);
        due("11 1 thick", 1, x.scrape(1));
        x.write(2, 1, 0);
        due("11 gone at 0", 0, x.scrape(1));
        due("5 0 thick", 0, x.skin(1, 1));
        due("7 nothing is on it", 0, x.layers(1, 2));
        due("9 nothing is read", -1, x.read(1, 0));
        due("10 nothing can be written", false, x.write(2, 1, 0));
        due("37 gone", 2, x.count(5));
        due("20 no place", -1, x.place(2, 1));
        due("21 no cost", -1, x.cost(2, 1));
        due("23 it bears nothing", 0, x.bears(1, 2));
        due("25 the first line", 0, x.deepest(1));
        due("26 all but the hole", 13, x.bare(1));
        due("5 the hole stays", 2, x.skin(1, 2));
        due("14 undone", true, x.undo());
        due("14 it is there again", 1, x.skin(1, 1));
        due("14 with what was on it", 0, x.layer(1, 3, 0));
        WornSkin y = Check.withLibrary("skin a lines 2 thick 2;text o oath gall lines 1;");
        y.write(0, 0, 0);
        due("12 less than 0 is 0", 0, y.third(0));
        due("37 how thick", 0, y.count(4));
    }

    private static void weekAndUndo() {
        WornSkin x = Check.withLibrary(PLAIN + "damp 5 0 7;");
        due("13 the first", 1, x.week());
        due("13 its damp", 0, x.count(3));
        due("13 the second", 2, x.week());
        due("13 the third", 3, x.week());
        due("13 again", 5, x.count(3));
        for (int i = 0; i < 20; i++) {
            x.week();
        }
        due("14 the last 16", 16, x.count(10));
        for (int i = 0; i < 16; i++) {
            due("14 undone", true, x.undo());
        }
        due("14 no more", false, x.undo());
        due("14 where it was", 7, x.count(2));
        x.write(0, 0, 0);
        x.scrape(0);
        x.write(3, 0, 0);
        x.third(0);
        x.undo();
        due("14 the third", 15, x.skin(0, 3));
        due("14 the third", 18, x.skin(0, 1));
        x.undo();
        due("14 the writing", 1, x.layers(0, 1));
        x.undo();
        due("14 the scraping", 3, x.skin(0, 3));
        due("14 the scraping", 20, x.skin(0, 1));
        x.undo();
        due("14 all of it", 0, x.count(6));
        x.see(0, 1, 1, true);
        due("14 what is seen can't be", false, x.undo());
    }

    private static void judged() {
        WornSkin x = Check.withLibrary(PLAIN + "damp 9;");
        due("15 no year", -1, x.judged(0));
        Check.readYear(x, "write cha cod 0;write cha cod 1;scrape cod;third cod;week;write rec vel 0;scrape vel;"
            + "write cha vel 2;scrape vel;write rec vel 0;");
        x.write(3, 0, 0);
        due("15 the first that can't be", 1, x.judged(0));
        due("15 the first by which one is gone", 8, x.judged(1));
        due("15 whole at last", 1, x.judged(2));
        due("15 all is as it was", 4, x.count(6));
        due("15 others", -2, x.judged(3));
        due("15 others", -2, x.judged(-1));
        Check.readYear(x, "week;week;");
        due("15 from the beginning", 0, x.judged(2));
        due("15 none", -1, x.judged(0));
        due("15 none", -1, x.judged(1));
        Check.readYear(x, "third vel;write oat vel 5;");
        due("15 the very first", 0, x.judged(0));
    }

    private static void laterAndWhen() {
        WornSkin x = Check.withLibrary(PLAIN + "damp 0 1 2 0 0 9;");
        x.write(0, 0, 0);
        due("16 now", 0, x.later(0, 0, 0));
        due("17 now", 0, x.when(0));
        x.scrape(0);
        due("16 0 weeks", -1, x.later(0, 0, 0));
        due("16 1 week", -1, x.later(0, 0, 1));
        due("16 2 weeks", 0, x.later(0, 0, 2));
        due("16 38 weeks", 0, x.later(0, 1, 38));
        due("16 40 weeks", -1, x.later(0, 1, 40));
        due("16 41 weeks", -1, x.later(0, 0, 41));
        due("16 less than none", -1, x.later(0, 0, -1));
        due("16 another line", -1, x.later(0, 6, 2));
        due("16 another skin", -1, x.later(2, 0, 2));
        due("17 behind 2", 2, x.when(0));
        x.week();
        x.week();
        x.week();
        due("17 from the week on", 2, x.when(0));
        due("17 never written", -1, x.when(1));
        due("17 others", -1, x.when(4));
        due("17 others", -1, x.when(-1));
        due("17 nothing is done", 3, x.count(2));
        WornSkin y = Check.withLibrary(PLAIN + "damp 0 0 0 0 0 0 0 0 0 0 0 9;");
        y.week();
        y.write(0, 0, 0);
        y.scrape(0);
        due("17 ten on", 10, y.when(0));
        WornSkin z = Check.withLibrary(PLAIN);
        z.write(0, 0, 0);
        z.scrape(0);
        due("17 never damp", -1, z.when(0));
        due("16 never damp", -1, z.later(0, 0, 40));
    }

    private static void needAndPsalter() {
        WornSkin x = Check.withLibrary(PLAIN + "damp 3;");
        x.write(0, 0, 0);
        due("18 open", 0, x.need(0));
        due("29 open", 10, x.psalter(0));
        x.scrape(0);
        due("18 2 - 1 < 2", 2, x.need(0));
        due("29 2 to 9", 8, x.psalter(0));
        x.write(1, 0, 0);
        x.scrape(0);
        due("18 a psalm", 2, x.need(1));
        due("18 half of it lies under: never", -1, x.need(0));
        due("29 never", 0, x.psalter(0));
        due("18 others", -1, x.need(4));
        due("18 others", -1, x.need(-1));
        due("29 others", -1, x.psalter(4));
        due("29 others", -1, x.psalter(-1));
        WornSkin y = Check.withLibrary("skin s lines 4 thick 9;text a charter soot lines 2;text b charter soot lines 1;"
            + "shows wet=7 or wet=9;");
        y.write(0, 0, 0);
        y.scrape(0);
        due("18 7", 7, y.need(0));
        due("29 two", 2, y.psalter(0));
        y.write(1, 0, 0);
        due("18 one line is not enough", -1, y.need(0));
        y.scrape(0);
        y.write(0, 0, 1);
        due("18 open again", 0, y.need(0));
    }

    private static void lost() {
        WornSkin x = Check.withLibrary(PLAIN);
        due("19 none", 0, x.lost());
        x.write(0, 0, 0);
        due("19 open", 0, x.lost());
        x.scrape(0);
        due("19 by damp it is read", 0, x.lost());
        x.write(3, 0, 0);
        due("19 under one that lies open", 1, x.lost());
        x.scrape(0);
        due("19 under one that always shows first", 1, x.lost());
        x.write(1, 0, 0);
        x.write(2, 0, 3);
        due("19 two", 9, x.lost());
        WornSkin y = Check.withLibrary("skin s lines 2 thick 9;text a charter soot lines 1;text b psalm soot lines 1;"
            + "shows wet=9 or wet=0;");
        y.write(1, 0, 1);
        y.scrape(0);
        y.write(0, 0, 0);
        y.scrape(0);
        due("19 damp 9 is tried, and damp 8 for the psalm", 0, y.lost());
        WornSkin z = Check.withLibrary("skin s lines 2 thick 9;text a charter soot lines 1;text b psalm soot lines 1;"
            + "shows wet=10;");
        z.write(1, 0, 1);
        z.write(0, 0, 0);
        z.scrape(0);
        due("19 wet 10 by damp 9 for a psalm alone", 1, z.lost());
    }

    private static void placeAndCost() {
        WornSkin x = Check.withLibrary(PLAIN);
        due("20 the first", 0, x.place(3, 0));
        due("20 behind the hole", 2, x.place(0, 1));
        due("20 too long", -1, x.place(3, 1));
        due("20 others", -1, x.place(4, 0));
        due("20 others", -1, x.place(-1, 0));
        due("20 others", -1, x.place(0, 2));
        due("21 nothing", 0, x.cost(0, 0));
        due("21 never", -1, x.cost(3, 1));
        due("21 others", -1, x.cost(4, 0));
        due("21 others", -1, x.cost(0, -1));
        x.write(1, 0, 0);
        x.write(1, 0, 3);
        due("20 none", -1, x.place(2, 0));
        due("21 a third is enough", 1, x.cost(2, 0));
        due("21 all of it", 1, x.cost(0, 0));
        WornSkin y = Check.withLibrary("skin s lines 3 thick 3;text a charter soot lines 1;text b oath gall lines 1;"
            + "text c psalm soot lines 2;");
        y.write(0, 0, 0);
        y.write(1, 0, 1);
        y.write(0, 0, 2);
        due("21 by a third 1", 1, y.cost(0, 0));
        due("21 by scraping it is gone", -1, y.cost(2, 0));
        due("21 all is as it was", 7, y.skin(0, 3));
    }

    private static void lay() {
        WornSkin x = Check.withLibrary("skin a lines 3 thick 3;skin b lines 6 thick 3;"
            + "text p oath gall lines 2;text q oath gall lines 6;text r oath gall lines 1;text s oath gall lines 2;");
        due("22 three of four", 3, x.lay(-1));
        due("22 the first row", 0, x.lay(0));
        due("22 q or s, one of them: q goes ahead", 6, x.lay(1));
        due("22 s has no place then", -1, x.lay(3));
        due("22 its row", 2, x.lay(2));
        due("22 others", -2, x.lay(4));
        due("22 others", -2, x.lay(-2));
        x.write(2, 1, 5);
        due("22 still three", 3, x.lay(-1));
        due("22 the long one can't", -1, x.lay(1));
        due("22 the last one", 6, x.lay(3));
        WornSkin y = Check.withLibrary("skin a lines 6 thick 3;text p oath gall lines 1;text q oath gall lines 3;"
            + "text r oath gall lines 2;hole a 2;");
        due("22 six lines on five", 2, y.lay(-1));
        due("22 p", 0, y.lay(0));
        due("22 q", 3, y.lay(1));
        due("22 r has no place", -1, y.lay(2));
        WornSkin z = Check.withLibrary("skin a lines 6 thick 3;text p oath gall lines 2;text q oath gall lines 3;"
            + "text r oath gall lines 1;hole a 2;");
        due("22 not all", 2, z.lay(-1));
        due("22 p", 0, z.lay(0));
        due("22 q", 3, z.lay(1));
        due("22 r", -1, z.lay(2));
        WornSkin six = Check.withLibrary("skin a lines 6 thick 3;text p oath gall lines 6;");
        due("22 all six lines", 1, six.lay(-1));
        due("22 all six lines", 0, six.lay(0));
        six.write(0, 0, 0);
        due("22 nowhere now", 0, six.lay(-1));
        due("22 nowhere now", -1, six.lay(0));
        WornSkin e = new WornSkin();
        due("22 nothing told", 0, e.lay(-1));
        due("22 nothing told", -2, e.lay(0));
    }

    private static void bears() {
        WornSkin x = Check.withLibrary(PLAIN);
        due("23 20 by 1, 9 on a line", 20, x.bears(0, 2));
        due("23 20 by 3", 7, x.bears(0, 3));
        due("23 too long", 0, x.bears(1, 3));
        due("23 others", -1, x.bears(2, 0));
        due("23 others", -1, x.bears(0, 4));
        due("23 others", -1, x.bears(-1, 0));
        due("23 others", -1, x.bears(0, -1));
        x.write(3, 0, 0);
        due("23 the oath is scraped with the first", 18, x.bears(0, 2));
        WornSkin y = Check.withLibrary("skin s lines 1 thick 30;text a charter soot lines 1;");
        due("23 nine layers", 9, y.bears(0, 0));
        y.write(0, 0, 0);
        due("23 it lies open", 0, y.bears(0, 0));
    }

    private static void overDeepestBareSame() {
        WornSkin x = Check.withLibrary(PLAIN);
        due("27 nothing is not the same", 0, x.same());
        x.write(0, 0, 0);
        x.scrape(0);
        x.write(1, 0, 1);
        x.scrape(0);
        x.write(2, 0, 1);
        // by lines: cha | cha psa rec | psa | psa | - | -
        due("24 right above or not", 6, x.over(0));
        due("24 above the psalm", 4, x.over(1));
        due("24 nothing", 0, x.over(2));
        due("24 never written", 0, x.over(3));
        due("24 others", -1, x.over(4));
        due("24 others", -1, x.over(-1));
        due("25 the deepest", 1, x.deepest(0));
        due("25 of equal ones the first", 0, x.deepest(1));
        due("25 others", -1, x.deepest(2));
        due("25 others", -1, x.deepest(-1));
        due("26 bare", 0b110000, x.bare(0));
        due("26 no holes", 0b1101, x.bare(1));
        due("26 others", -1, x.bare(2));
        due("26 others", -1, x.bare(-1));
        due("27 lines 2 and 3", 1, x.same());
        x.write(0, 1, 2);
        due("27 with those of the other skin", 1 + 3, x.same());
        x.scrape(1);
        due("27 open or not", 4, x.same());
        x.write(0, 1, 2);
        due("27 cha cha is not cha", 2, x.same());
    }

    private static void giveup() {
        WornSkin x = Check.withLibrary("skin a lines 3 thick 9;skin b lines 3 thick 9;skin c lines 3 thick 9;"
            + "text p charter soot lines 1;text q charter soot lines 1;text r charter soot lines 1;");
        due("28 none can be", -1, x.giveup());
        x.write(0, 0, 0);
        x.write(1, 0, 1);
        due("28 the only one", 0, x.giveup());
        x.write(2, 2, 0);
        due("28 one is fewer than two", 2, x.giveup());
        x.write(0, 2, 1);
        due("28 what is elsewhere stays: q, r: the first", 0, x.giveup());
        x.write(1, 2, 2);
        due("28 none by the first", 0, x.giveup());
        due("28 all is as it was", 9, x.skin(0, 1));
        WornSkin y = Check.withLibrary("skin a lines 1 thick 1;skin b lines 1 thick 9;damp 9;"
            + "text p charter soot lines 1;text q charter soot lines 1;");
        y.write(0, 0, 0);
        y.write(1, 1, 0);
        due("28 what shows still is whole; what is gone is not", 1, y.giveup());
    }

    private static void seeWhoAsk() {
        WornSkin x = Check.withLibrary(PLAIN);
        due("31 nothing seen: all", 15, x.who());
        due("30 another skin", false, x.see(2, 1, 1, true));
        due("30 another skin", false, x.see(-1, 1, 1, true));
        due("30 not deep", false, x.see(0, 0, 1, true));
        due("30 too deep", false, x.see(0, 10, 1, true));
        due("30 too damp", false, x.see(0, 1, 10, true));
        due("30 too dry", false, x.see(0, 1, -1, true));
        due("37 nothing seen", 0, x.count(9));
        due("32 deep 1 by damp 1: the recipe alone", 11, x.ask(0));
        due("30 does not show", true, x.see(0, 1, 1, false));
        due("31 not the recipe", 11, x.who());
        due("32 none parts them", -1, x.ask(0));
        due("32 others", -1, x.ask(2));
        due("32 others", -1, x.ask(-1));
        for (int i = 0; i < 7; i++) {
            due("30 up to 8", true, x.see(0, 9, 9, false));
        }
        due("30 no ninth", false, x.see(0, 1, 1, false));
        due("37 eight", 8, x.count(9));
        WornSkin y = Check.withLibrary("skin s lines 3 thick 5;skin o lines 1 thick 9;"
            + "text a charter gall lines 1;text b charter soot lines 1;text c psalm gall lines 1;text d psalm soot lines 1;"
            + "shows (thin<6 and bite) or (wet=10 and deep=3);");
        y.see(0, 1, 0, true);
        due("31 gall by a thin one", 5, y.who());
        due("32 only a psalm is at wet 10, deep 3", 39, y.ask(1));
        due("32 by the thin one all show", -1, y.ask(0));
        y.see(0, 1, 0, false);
        due("31 none", 0, y.who());
        due("32 none", -1, y.ask(1));
        WornSkin z = Check.withLibrary("skin s lines 3 thick 5;text a charter soot lines 1;shows thin<5;");
        z.see(0, 1, 0, false);
        due("31 as thick as it is", 1, z.who());
        z.write(0, 0, 0);
        z.scrape(0);
        due("31 when it is asked", 0, z.who());
        WornSkin two = Check.withLibrary("skin s lines 3 thick 5;text a charter gall lines 1;text b charter soot lines 1;"
            + "text c psalm gall lines 1;text d psalm soot lines 1;shows (deep=1 and wet=9 and bite) or (deep=2 and bite);");
        // deep 1: c alone by damp 8, a alone by damp 9; deep 2: a and c by every damp
        due("32 two and two is less than three and one", 20, two.ask(0));
        two.see(0, 2, 5, true);
        due("31 gall", 5, two.who());
        due("32 of equal ones the first", 18, two.ask(0));
    }

    private static void chance() {
        WornSkin x = Check.withLibrary("skin s lines 6 thick 9;text a charter soot lines 1;text b psalm soot lines 1;"
            + "text c oath soot lines 1;text d recipe soot lines 1;text e oath gall lines 1;shows bite=0 and thin<9 and (wet=9 or wet=1);");
        x.write(0, 0, 0);
        x.scrape(0);
        due("33 by damp alone: 0.3", 300000, x.chance(0, 1, 3));
        due("33 1 - 0.7 * 0.7", 510000, x.chance(0, 2, 3));
        due("33 1 - 0.7 ^ 6", 1000000 - 117649, x.chance(0, 6, 3));
        due("33 never damp", 0, x.chance(0, 6, 0));
        due("33 always damp", 1000000, x.chance(0, 1, 10));
        x.write(1, 0, 1);
        x.scrape(0);
        due("33 a psalm by wet 1: dry weeks", 1000000 - 27000, x.chance(1, 3, 3));
        due("33 never dry", 0, x.chance(1, 3, 10));
        x.write(2, 0, 2);
        due("33 open: always", 1000000, x.chance(2, 1, 5));
        due("33 not written: never", 0, x.chance(3, 6, 5));
        due("33 others", -1, x.chance(5, 1, 5));
        due("33 others", -1, x.chance(-1, 1, 5));
        due("33 others", -1, x.chance(0, 0, 5));
        due("33 others", -1, x.chance(0, 7, 5));
        due("33 others", -1, x.chance(0, 1, -1));
        due("33 others", -1, x.chance(0, 1, 11));
    }

    private static void rests() {
        WornSkin x = new WornSkin();
        due("34 one reads", 2, Check.rests(x, 2, 5, 1, -1));
        due("34 the other one first", 1, Check.rests(x, 2, 5, 1, 0));
        due("34 the first one then", 2, Check.rests(x, 2, 5, 1, 1));
        due("34 none such", -100, Check.rests(x, 2, 5, 1, 2));
        due("34 all four", 4, Check.rests(x, 0, 0, 0, -1));
        due("34 both wait", 0, Check.rests(x, 0, 0, 0, 0));
        due("34 both read", 3, Check.rests(x, 0, 0, 0, 3));
        due("34 both wait, if reading gets nothing", 3, Check.rests(x, 1, 0, 0, -1));
        due("34 the last of these", 2, Check.rests(x, 1, 0, 0, 2));
        due("34 both read, if nothing is lost", 3, Check.rests(x, 0, 9, 0, 2));
        due("34 he who waits gets more", 2, Check.rests(x, 0, 9, 1, -1));
        due("34 up to 9", 2, Check.rests(x, 9, 9, 9, -1));
        for (int wrong : new int[] {-1, 10, LEAST, MOST}) {
            due("34 others", -100, Check.rests(x, wrong, 1, 1, -1));
            due("34 others", -100, Check.rests(x, 1, wrong, 1, -1));
            due("34 others", -100, Check.rests(x, 1, 1, wrong, -1));
        }
        due("34 others", -100, Check.rests(x, 1, 1, 1, -2));
        due("34 others", -100, Check.rests(x, 1, 1, 1, LEAST));
        due("34 others", -100, Check.rests(x, 1, 1, 1, MOST));
    }

    /**
     * Of the seed 1 come the draws (g / 65536) 16838, 5758, 10113, 17515, 31051, 5627, 23010, 7419.
     */
    private static void years() {
        WornSkin x = Check.withLibrary("skin a lines 6 thick 9;skin b lines 6 thick 9;"
            + "text p charter soot lines 1;text q oath gall lines 4;text r psalm soot lines 2;");
        // 16838 % 3 = 2: r; 5758 % 2 = 0: a; 10113 % 6 = 3: written
        due("35 written", 1, x.years(1, 1, 0));
        due("35 whole", 4, x.years(1, 1, 1));
        // 17515 % 3 = 1: q; 31051 % 2 = 1: b; 5627 % 6 = 5: beyond; 23010 % 3 = 0: scrape b can't be
        due("35 the second week", 1, x.years(1, 2, 0));
        due("35 thick", 18, x.years(1, 2, 2));
        due("35 all is as it was", 0, x.count(6));
        due("35 the week is as it was", 0, x.count(2));
        due("35 nothing to undo", 0, x.count(10));
        due("35 others", -1, x.years(-1, 1, 0));
        due("35 others", -1, x.years(10000, 1, 0));
        due("35 others", -1, x.years(0, 0, 0));
        due("35 others", -1, x.years(0, 100, 0));
        due("35 others", -1, x.years(0, 1, 3));
        due("35 others", -1, x.years(0, 1, -1));
        WornSkin y = new WornSkin();
        due("35 without skins", 0, y.years(9999, 99, 0));
        due("35 without skins", 0, y.years(9999, 99, 1));
        due("35 without skins", 0, y.years(9999, 99, 2));
        WornSkin z = Check.withLibrary("skin a lines 1 thick 9;");
        due("35 without texts", 9, z.years(3, 99, 2));
        WornSkin w = Check.withLibrary("skin a lines 6 thick 9;text p charter soot lines 1;damp 0 9;");
        // line 10113 % 6 = 3; then 5627 % 6 = 5 (third draw of the second week)
        due("35 two lines written", 2, w.years(1, 2, 0));
        w.write(0, 0, 3);
        // 3 lies open: 17515 % 3 = 1: third
        due("35 a third by draws", 8, w.years(1, 1, 2));
        due("35 the week goes on: damp 9 shows it", 1, w.years(1, 1, 1));
        due("35 hence", 1, w.skin(0, 3) >> 3);
    }

    private static void mark() {
        WornSkin x = Check.withLibrary(PLAIN + "damp 1 2;");
        due("36 nothing is on it", false, x.mark(0, true));
        due("36 none such", false, x.mark(4, false));
        due("36 none such", false, x.mark(-1, false));
        due("36 none such", false, x.mark(4, true));
        due("36 none such", false, x.mark(MOST, true));
        x.write(0, 0, 0);
        x.week();
        x.see(0, 1, 1, true);
        Check.readYear(x, "week;week;");
        due("36 laid", true, x.mark(3, false));
        due("36 by that nothing is lost", 2, x.count(10));
        x.scrape(0);
        x.week();
        x.see(0, 2, 2, true);
        Check.readYear(x, "week;");
        Check.feed(x, "week");
        due("36 gone back to", true, x.mark(3, true));
        due("36 the week", 1, x.count(2));
        due("36 what lies open", 3, x.skin(0, 3));
        due("36 how thick", 20, x.skin(0, 1));
        due("36 the year", 2, x.count(8));
        due("36 what is seen", 1, x.count(9));
        due("36 nothing can be undone", 0, x.count(10));
        due("36 nothing can be undone", false, x.undo());
        due("36 the tape stays", 4, x.count(11));
        x.scrape(0);
        x.undo();
        x.third(0);
        due("36 a second time", true, x.mark(3, true));
        due("36 a second time", 3, x.skin(0, 3));
        x.third(0);
        due("36 laid anew", true, x.mark(3, false));
        x.scrape(0);
        x.mark(3, true);
        due("36 laid anew", 2, x.skin(0, 3));
    }

    private static void count() {
        WornSkin x = Check.withLibrary(PLAIN + "damp 7 3;");
        x.write(1, 0, 0);
        x.write(2, 1, 0);
        x.week();
        x.see(0, 1, 1, true);
        Check.readYear(x, "week;week;week;");
        Check.feed(x, "abc");
        int[] want = {2, 4, 1, 3, 23, 0, 4, 6, 3, 1, 3, 3};
        for (int what = 0; what < want.length; what++) {
            due("37 what " + what, want[what], x.count(what));
        }
        for (int wrong : new int[] {-1, 12, LEAST, MOST}) {
            due("37 others", -1, x.count(wrong));
        }
        WornSkin y = Check.withLibrary("skin a lines 1 thick 1;skin b lines 1 thick 1;text p charter soot lines 1;");
        y.write(0, 1, 0);
        y.scrape(1);
        due("37 which are gone", 2, y.count(5));
        due("37 thick together", 1, y.count(4));
    }
}
