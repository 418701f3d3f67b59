import java.math.BigInteger;

/** Part 3 of the Terms and promises 16 to 37: each sentence of the document that names an edge, from both of its sides. */
public final class AskedEdgeTest {
    private static final int LEAST = Integer.MIN_VALUE;
    private static final int MOST = Integer.MAX_VALUE;
    private static final String ONE = "skin s lines 6 thick 9;text t charter soot lines 1;";
    /** Texts of 1, 2, 3 and 6 lines, all of soot, none an oath. */
    private static final String SIZES = "text one charter soot lines 1;text two charter soot lines 2;"
        + "text three charter soot lines 3;text six charter soot lines 6;";
    private static final Check CHECK = new Check();

    public static void main(String[] args) {
        later();
        when();
        need();
        psalter();
        lost();
        place();
        cost();
        costGone();
        layHowMany();
        layWhere();
        layFull();
        bears();
        over();
        deepestAndBare();
        same();
        giveup();
        see();
        who();
        ask();
        chance();
        restsAll();
        restsOthers();
        yearsBounds();
        yearsDraws();
        yearsLong();
        yearsNothingTold();
        marksHold();
        marksHoldSeen();
        marksWhich();
        count();
        countFull();
        nothingIsDone();
        CHECK.end("AskedEdgeTest");
    }

    private static void says(String words) {
        CHECK.says(words);
    }

    private static void due(String call, long want, long got) {
        CHECK.due(call, want, got);
    }

    private static void due(String call, boolean want, boolean got) {
        CHECK.due(call, want, got);
    }

    /** The text 0 is written from a line on, and scraped. */
    private static WornSkin scraped(String library, int line) {
        WornSkin x = Check.withLibrary(library);
        x.write(0, 0, line);
        x.scrape(0);
        return x;
    }

    private static void later() {
        says("LATER: what is READ in a line behind so many (0 to 40) WEEKS.");
        WornSkin x = scraped(ONE + "damp 9;", 5);
        due("0", 0, x.later(0, 5, 0));
        due("40", 0, x.later(0, 5, 40));
        for (int wrong : new int[] {LEAST, -1, 41, 52, MOST}) {
            due("weeks " + wrong, -1, x.later(0, 5, wrong));
        }
        WornSkin y = scraped(ONE + "damp 0 0 0 0 9 0 0 0 0 0 0 0;", 0);
        for (int weeks = 0; weeks <= 40; weeks++) {
            due("weeks " + weeks, weeks % 12 == 4 ? 0 : -1, y.later(0, 0, weeks));
        }
        y.week();
        due("from week 1 on", 0, y.later(0, 0, 39));
        due("from week 1 on", -1, y.later(0, 0, 40));
        due("no week goes by", 1, y.count(2));
        x.write(0, 0, 3);
        due("what lies open", 0, x.later(0, 3, 40));
        due("what lies open, a week ahead", -1, x.later(0, 3, -1));

        says("LATER; NONE: others, nothing.");
        due("nothing is there", -1, x.later(0, 4, 0));
        for (int wrong : Check.beyond(6)) {
            due("line " + wrong, -1, x.later(0, wrong, 0));
        }
        for (int wrong : Check.beyond(1)) {
            due("skin " + wrong, -1, x.later(wrong, 5, 0));
        }
    }

    private static void when() {
        says("WHEN: behind how many (0 to 40) a TEXT is WHOLE.");
        WornSkin x = Check.withLibrary(ONE + "damp 0 0 0 0 0 0 0 0 0 0 0 9;");
        x.write(0, 0, 0);
        due("now", 0, x.when(0));
        x.scrape(0);
        for (int week = 0; week < 24; week++) {
            due("week " + week, 11 - week % 12, x.when(0));
            x.week();
        }

        says("WHEN; NONE: others, not by 40.");
        due("never", -1, scraped(ONE + "damp 2 1;", 0).when(0));
        due("never damp", -1, scraped(ONE, 0).when(0));
        due("never written", -1, Check.withLibrary(ONE + "damp 9;").when(0));
        for (int wrong : Check.beyond(1)) {
            due("text " + wrong, -1, x.when(wrong));
        }
    }

    private static void need() {
        says("NEED: the least damp (0 to 9) by which, were it so now, a TEXT is WHOLE.");
        for (int damp = 0; damp <= 9; damp++) {
            due("damp " + damp, damp, scraped(ONE + "damp 4;shows wet=" + damp + ";", 0).need(0));
            due("from damp " + damp + " on", damp, scraped(ONE + "shows not (wet<" + damp + ");", 0).need(0));
        }
        due("the least of two", 3, scraped(ONE + "shows wet=8 or wet=3;", 0).need(0));
        WornSkin open = Check.withLibrary(ONE + "shows 0;");
        open.write(0, 0, 0);
        due("what lies open", 0, open.need(0));

        says("NEED; NONE: others, by none.");
        due("by 10", -1, scraped(ONE + "shows wet=10;", 0).need(0));
        due("by 10 a psalm", 9, scraped(ONE.replace("charter", "psalm") + "shows wet=10;", 0).need(0));
        due("by 0 no psalm", -1, scraped(ONE.replace("charter", "psalm") + "shows wet=0;", 0).need(0));
        due("by none", -1, scraped(ONE + "shows 0;", 0).need(0));
        due("not written", -1, Check.withLibrary(ONE + "shows 1;").need(0));
        for (int wrong : Check.beyond(1)) {
            due("text " + wrong, -1, open.need(wrong));
        }
    }

    private static void psalter() {
        says("PSALTER: by how many damps of 0 to 9 a TEXT is WHOLE now.");
        due("by all", 10, scraped(ONE + "shows 1;", 0).psalter(0));
        due("by none", 0, scraped(ONE + "shows 0;", 0).psalter(0));
        due("by 0 alone", 1, scraped(ONE + "shows wet=0;", 0).psalter(0));
        due("by 9 alone", 1, scraped(ONE + "shows wet=9;", 0).psalter(0));
        due("by 10", 0, scraped(ONE + "shows wet=10;", 0).psalter(0));
        due("by 0 and 9", 2, scraped(ONE + "shows wet*wet=wet*9;", 0).psalter(0));
        due("not written", 0, Check.withLibrary(ONE + "shows 1;").psalter(0));
        WornSkin open = Check.withLibrary(ONE + "shows 0;");
        open.write(0, 0, 0);
        due("what lies open", 10, open.psalter(0));

        says("PSALTER; NONE: others.");
        for (int wrong : Check.beyond(1)) {
            due("text " + wrong, -1, open.psalter(wrong));
        }
    }

    private static void lost() {
        says("LOST: TEXTS that are a LAYER somewhere and are READ nowhere by any damp of 0 to 9 now.");
        String six = "skin s lines 6 thick 9;skin o lines 6 thick 1;text a charter soot lines 1;text b charter soot lines 1;"
            + "text c charter soot lines 1;text d charter soot lines 1;text e charter soot lines 1;text f charter soot lines 1;";
        WornSkin x = Check.withLibrary(six + "shows 0;");
        due("no layer is there", 0, x.lost());
        for (int text = 0; text < 6; text++) {
            x.write(text, 0, text);
        }
        due("all lie open", 0, x.lost());
        x.third(0);
        due("0 and 3", 0b001001, x.lost());
        x.scrape(0);
        due("all", 63, x.lost());
        x.write(5, 1, 0);
        due("what lies open elsewhere is not", 31, x.lost());
        x.scrape(1);
        due("that skin is gone", 63, x.lost());
        WornSkin gone = Check.withLibrary(six + "shows 0;");
        gone.write(2, 1, 0);
        gone.scrape(1);
        due("what was on one gone is no layer", 0, gone.lost());
        due("by damp 0", 0, scraped(ONE + "shows wet=0;damp 5;", 0).lost());
        due("by damp 9", 0, scraped(ONE + "shows wet=9;damp 5;", 0).lost());
        due("by damp 10", 1, scraped(ONE + "shows wet=10;damp 5;", 0).lost());
        due("below damp 0", 1, scraped(ONE + "shows wet<0;damp 5;", 0).lost());
        due("a psalm below damp 0", 1, scraped(ONE.replace("charter", "psalm") + "shows wet<1;damp 5;", 0).lost());
        WornSkin last = Check.withLibrary("skin a lines 6 thick 9;skin b lines 6 thick 9;skin c lines 6 thick 9;"
            + "text t charter soot lines 1;shows 0;");
        last.write(0, 2, 5);
        due("open in the last line of the last skin", 0, last.lost());
        last.scrape(2);
        due("hidden there", 1, last.lost());
        WornSkin part = scraped("skin s lines 2 thick 9;text t charter soot lines 2;text u charter soot lines 1;shows 1;", 0);
        part.write(1, 0, 0);
        due("one line of two is enough", 0, part.lost());
        part.write(1, 0, 1);
        due("none is not", 1, part.lost());
    }

    private static void place() {
        says("PLACE of a TEXT on a SKIN: the first line from which on it can be WRITTEN now.");
        String skins = "skin s lines 6 thick 9;skin o lines 3 thick 1;skin p lines 6 thick 9;";
        WornSkin x = Check.withLibrary(skins + SIZES + "hole p 0;hole p 3;");
        due("line 0", 0, x.place(3, 0));
        due("three on three", 0, x.place(2, 1));
        due("behind a hole", 1, x.place(0, 2));
        due("between holes", 1, x.place(1, 2));
        x.write(2, 0, 0);
        due("behind what lies open", 3, x.place(2, 0));
        x.write(1, 0, 3);
        due("the last line", 5, x.place(0, 0));

        says("PLACE; NONE: others, none.");
        due("two in one line", -1, x.place(1, 0));
        due("six on three", -1, x.place(3, 1));
        due("three between holes", -1, x.place(2, 2));
        x.write(0, 0, 5);
        due("all lie open", -1, x.place(0, 0));
        x.write(2, 1, 0);
        x.scrape(1);
        due("gone", -1, x.place(0, 1));
        for (int wrong : Check.beyond(4)) {
            due("text " + wrong, -1, x.place(wrong, 2));
            due("text " + wrong, -1, x.cost(wrong, 2));
        }
        for (int wrong : Check.beyond(3)) {
            due("skin " + wrong, -1, x.place(0, wrong));
            due("skin " + wrong, -1, x.cost(0, wrong));
        }
        WornSkin nine = Check.withLibrary("skin s lines 2 thick 30;" + SIZES);
        for (int n = 0; n < 9; n++) {
            due("the first with less than nine", 0, nine.place(0, 0));
            nine.write(0, 0, 0);
            nine.scrape(0);
        }
        due("behind one with nine", 1, nine.place(0, 0));
        due("two lines", -1, nine.place(1, 0));
    }

    private static void cost() {
        says("COST: by how much less thick the SKIN must be, at least, so that it can: by nothing, by THIRD, by SCRAPE");
        String inks = "text cs charter soot lines 1;text og oath gall lines 1;text two charter soot lines 2;text os oath soot lines 1;";
        WornSkin x = Check.withLibrary("skin s lines 6 thick 9;" + inks);
        due("by nothing", 0, x.cost(0, 0));
        for (int line : new int[] {1, 2, 4, 5}) {
            x.write(1, 0, line);
        }
        due("line 0 is free", 0, x.cost(0, 0));
        x.write(0, 0, 0);
        due("line 3 is free", 0, x.cost(0, 0));
        x.write(0, 0, 3);
        due("by third", 1, x.cost(0, 0));
        due("by scrape", 3, x.cost(2, 0));
        x.third(0);
        due("third freed these", 0, x.cost(0, 0));
        due("two lines by scrape", 3, x.cost(2, 0));
        x.write(3, 0, 0);
        x.write(1, 0, 3);
        due("by third 3", 3, x.cost(0, 0));
        WornSkin y = Check.withLibrary("skin s lines 6 thick 9;hole s 0;hole s 3;" + inks);
        y.write(2, 0, 1);
        y.write(3, 0, 4);
        due("one line is free", 0, y.cost(0, 0));
        due("no third can be, by scrape 2", 2, y.cost(2, 0));
        WornSkin z = Check.withLibrary("skin s lines 4 thick 9;" + inks);
        z.write(2, 0, 0);
        z.write(0, 0, 2);
        due("line 3 is free", 0, z.cost(0, 0));
        z.write(1, 0, 3);
        due("third takes 0 and 3, of gall, an oath: 3; scrape, too", 3, z.cost(0, 0));
        due("all is as it was", 15, z.skin(0, 3));

        says("COST; NONE: others, by none.");
        WornSkin none = Check.withLibrary("skin s lines 1 thick 30;hole s 0;skin o lines 1 thick 30;" + inks);
        due("a hole", -1, none.cost(0, 0));
        due("too long", -1, none.cost(2, 1));
        for (int n = 0; n < 9; n++) {
            none.write(0, 1, 0);
            due(n < 8 ? "by scrape" : "nine layers stay", n < 8 ? 1 : -1, none.cost(0, 1));
            none.scrape(1);
        }
        due("nine layers", -1, none.cost(0, 1));
    }

    private static void costGone() {
        says("(if it is not GONE by that)");
        for (int thick = 1; thick <= 5; thick++) {
            for (int wear = 1; wear <= 3; wear++) {
                String text = wear == 1 ? "charter soot" : wear == 2 ? "oath soot" : "oath gall";
                WornSkin x = Check.withLibrary("skin s lines 1 thick " + thick + ";text t " + text + " lines 1;");
                x.write(0, 0, 0);
                due(thick + " thick by " + wear, thick > wear ? wear : -1, x.cost(0, 0));
                WornSkin y = Check.withLibrary("skin s lines 2 thick " + thick + ";hole s 0;text t " + text + " lines 1;");
                y.write(0, 0, 1);
                due(thick + " thick by scraping " + wear, thick > wear ? wear : -1, y.cost(0, 0));
            }
        }
        WornSkin x = Check.withLibrary("skin s lines 2 thick 3;text cs charter soot lines 1;text og oath gall lines 1;"
            + "text two charter soot lines 2;");
        x.write(0, 0, 0);
        x.write(1, 0, 1);
        due("by third it is not", 1, x.cost(0, 0));
        due("by scrape it is", -1, x.cost(2, 0));
        x.third(0);
        due("2 thick, by nothing", 0, x.cost(0, 0));
        due("2 thick, by scrape it is", -1, x.cost(2, 0));
        WornSkin gone = scraped("skin s lines 1 thick 1;text t charter soot lines 1;", 0);
        due("one gone", -1, gone.cost(0, 0));
    }

    private static void layHowMany() {
        says("LAY: TEXTS WRITTEN now, each once at most: the most");
        String six = "text a oath gall lines 1;text b oath gall lines 1;text c oath gall lines 1;"
            + "text d oath gall lines 1;text e oath gall lines 1;text f oath gall lines 1;";
        WornSkin x = Check.withLibrary("skin s lines 6 thick 1;" + six);
        due("six on six", 6, x.lay(-1));
        for (int text = 0; text < 6; text++) {
            due("in their order", text, x.lay(text));
        }
        WornSkin five = Check.withLibrary("skin s lines 6 thick 1;hole s 2;" + six);
        due("six on five", 5, five.lay(-1));
        due("over the hole", 3, five.lay(2));
        due("the last one nowhere", -1, five.lay(5));
        WornSkin once = Check.withLibrary("skin s lines 6 thick 1;skin o lines 6 thick 1;text a oath gall lines 1;");
        due("each once at most", 1, once.lay(-1));
        WornSkin none = Check.withLibrary("skin s lines 1 thick 1;hole s 0;" + six);
        due("nowhere", 0, none.lay(-1));
        due("nowhere", -1, none.lay(0));
        due("no skin", 0, Check.withLibrary(six).lay(-1));
        due("no text", 0, Check.withLibrary("skin s lines 1 thick 1;").lay(-1));
        WornSkin gone = Check.withLibrary("skin s lines 1 thick 1;skin o lines 1 thick 9;" + six);
        due("two skins", 2, gone.lay(-1));
        gone.write(0, 0, 0);
        due("one lies open", 1, gone.lay(-1));
        gone.scrape(0);
        due("one is gone", 1, gone.lay(-1));
        due("so it is on the other one", 6, gone.lay(0));

        says("LAY, text NONE: how many; else the place (NONE: none); -2: others.");
        for (int wrong : new int[] {LEAST, -3, -2, 6, 7, MOST}) {
            due("text " + wrong, -2, x.lay(wrong));
        }
        due("one text told", -2, once.lay(1));
    }

    private static void layWhere() {
        says("of equal ones the first row (of places, 6 times the SKIN and the line, by TEXTS; none comes behind all others)");
        WornSkin last = Check.withLibrary("skin a lines 1 thick 1;skin b lines 1 thick 1;skin c lines 6 thick 1;"
            + "hole a 0;hole b 0;hole c 0;hole c 1;hole c 2;hole c 3;hole c 4;text t oath gall lines 1;");
        due("the last place", 17, last.lay(0));
        WornSkin x = Check.withLibrary("skin a lines 2 thick 1;skin b lines 1 thick 1;text p oath gall lines 1;text q oath gall lines 2;");
        due("both", 2, x.lay(-1));
        due("p makes room", 6, x.lay(0));
        due("q", 0, x.lay(1));
        WornSkin y = Check.withLibrary("skin a lines 6 thick 1;text p oath gall lines 6;text q oath gall lines 6;");
        due("one of two", 1, y.lay(-1));
        due("the first one", 0, y.lay(0));
        due("none comes behind", -1, y.lay(1));
        WornSkin z = Check.withLibrary("skin a lines 6 thick 1;text p oath gall lines 6;text q oath gall lines 3;text r oath gall lines 3;");
        due("two are more than one", 2, z.lay(-1));
        due("p nowhere", -1, z.lay(0));
        due("q", 0, z.lay(1));
        due("r", 3, z.lay(2));
        WornSkin w = Check.withLibrary("skin a lines 3 thick 1;skin b lines 6 thick 1;text p oath gall lines 2;"
            + "text q oath gall lines 6;text r oath gall lines 1;text s oath gall lines 1;");
        due("three of four", 3, w.lay(-1));
        due("p", 0, w.lay(0));
        due("q ahead of s", 6, w.lay(1));
        due("r", 2, w.lay(2));
        due("s nowhere", -1, w.lay(3));
        WornSkin bound = Check.withLibrary("skin a lines 6 thick 1;skin b lines 6 thick 1;hole a 0;hole a 1;hole a 2;hole a 3;hole a 4;"
            + "hole b 1;text p oath gall lines 2;");
        due("no text lies on two skins", 8, bound.lay(0));
    }

    /** How many of texts of so many lines can be laid on skins of so many. */
    private static int laid(int[] skins, int... sizes) {
        StringBuilder told = new StringBuilder();
        for (int i = 0; i < skins.length; i++) {
            told.append("skin s").append((char) ('a' + i)).append(" lines ").append(skins[i]).append(" thick 1;");
        }
        for (int i = 0; i < sizes.length; i++) {
            told.append("text t").append((char) ('a' + i)).append(" oath gall lines ").append(sizes[i]).append(';');
        }
        return Check.withLibrary(told.toString()).lay(-1);
    }

    private static void layFull() {
        says("LAY: TEXTS WRITTEN now, each once at most: the most");
        int[] sixes = {6, 6};
        due("no text goes on from skin to skin", 2, laid(sixes, 4, 4, 4));
        due("two skins, full", 2, laid(sixes, 6, 6, 6));
        due("two skins, one line too many", 2, laid(sixes, 6, 4, 3));
        due("two skins, full by three", 3, laid(sixes, 6, 4, 2));
        due("three skins, full by six", 6, laid(new int[] {6, 6, 6}, 1, 2, 3, 3, 4, 5));
        due("three skins, one line too many", 5, laid(new int[] {6, 6, 6}, 2, 2, 3, 3, 4, 5));
        due("the longest on the longer skin, behind", 4, laid(new int[] {4, 5}, 3, 2, 2, 2));
        due("the longest on the shorter skin, behind", 3, laid(new int[] {5, 4}, 4, 3, 2));
        due("one line too many there", 2, laid(new int[] {5, 4}, 4, 3, 3));
    }

    private static void bears() {
        says("BEARS: how often a TEXT can be WRITTEN in its PLACE on a SKIN and SCRAPED, one behind the other, till one of these can't be.");
        due("30 thick by 1, nine on each of six lines", 30, bornBy("skin s lines 6 thick 30;", "charter soot lines 1"));
        due("nine on one line", 9, bornBy("skin s lines 1 thick 30;", "charter soot lines 1"));
        due("nine on two lines each", 18, bornBy("skin s lines 2 thick 30;", "charter soot lines 1"));
        due("nine of six lines", 9, bornBy("skin s lines 6 thick 30;", "charter soot lines 6"));
        due("1 thick", 1, bornBy("skin s lines 6 thick 1;", "charter soot lines 1"));
        due("1 thick by 3", 1, bornBy("skin s lines 6 thick 1;", "oath gall lines 1"));
        due("3 thick by 3", 1, bornBy("skin s lines 6 thick 3;", "oath gall lines 1"));
        due("4 thick by 3", 2, bornBy("skin s lines 6 thick 4;", "oath gall lines 1"));
        due("30 thick by 2", 15, bornBy("skin s lines 6 thick 30;", "charter gall lines 1"));
        due("too long", 0, bornBy("skin s lines 5 thick 30;", "charter soot lines 6"));
        due("a hole", 0, bornBy("skin s lines 1 thick 30;hole s 0;", "charter soot lines 1"));
        WornSkin x = Check.withLibrary("skin s lines 2 thick 30;text t charter soot lines 1;text u oath gall lines 1;");
        x.write(1, 0, 0);
        // By 3 the first time; then line 0 takes eight more, and line 1 eight.
        due("what lies open is scraped, too", 17, x.bears(0, 0));
        x.write(1, 0, 1);
        due("no place", 0, x.bears(0, 0));
        x.scrape(0);
        due("one layer on each line: eight each", 16, x.bears(0, 0));
        due("all is as it was", 1, x.layers(0, 0));
        WornSkin gone = scraped("skin s lines 1 thick 1;text t charter soot lines 1;", 0);
        due("gone", 0, gone.bears(0, 0));

        says("BEARS, how often; NONE: others.");
        for (int wrong : Check.beyond(1)) {
            due("skin " + wrong, -1, x.bears(wrong, 0));
        }
        for (int wrong : Check.beyond(2)) {
            due("text " + wrong, -1, x.bears(0, wrong));
        }
    }

    private static int bornBy(String skin, String text) {
        return Check.withLibrary(skin + "text t " + text + ";").bears(0, 0);
    }

    private static void over() {
        says("OVER a TEXT: TEXTS that lie above it somewhere, right above or not (itself, too).");
        String texts = "text a charter soot lines 1;text b charter soot lines 1;text c charter soot lines 1;"
            + "text d charter soot lines 1;text e charter soot lines 1;text f charter soot lines 1;";
        WornSkin x = Check.withLibrary("skin s lines 2 thick 30;skin o lines 1 thick 1;" + texts);
        due("not written", 0, x.over(0));
        x.write(0, 0, 0);
        due("itself is not above itself", 0, x.over(0));
        x.scrape(0);
        x.write(0, 0, 0);
        due("itself above", 1, x.over(0));
        for (int text = 1; text < 6; text++) {
            x.scrape(0);
            x.write(text, 0, 0);
        }
        due("all", 63, x.over(0));
        due("the uppermost one", 0, x.over(5));
        due("right above alone", 32, x.over(4));
        due("two above", 48, x.over(3));
        x.write(0, 0, 1);
        due("in another line", 48, x.over(3));
        x.scrape(0);
        x.write(3, 0, 1);
        due("somewhere: b is not above d there", 48, x.over(3));
        due("somewhere: d is above a there", 63, x.over(0));
        x.write(5, 1, 0);
        x.scrape(1);
        due("one gone", 0, x.over(5));

        says("OVER, as bits; NONE: others.");
        for (int wrong : Check.beyond(6)) {
            due("text " + wrong, -1, x.over(wrong));
        }
        WornSkin nine = Check.withLibrary("skin s lines 1 thick 30;" + texts);
        for (int i = 0; i < 9; i++) {
            nine.write(i == 0 ? 5 : i == 8 ? 4 : 0, 0, 0);
            nine.scrape(0);
        }
        due("the ninth over the first", 17, nine.over(5));
    }

    private static void deepestAndBare() {
        says("DEEPEST of a SKIN: the line with the most LAYERS; of equal ones the first.");
        WornSkin x = Check.withLibrary("skin s lines 6 thick 9;hole s 1;skin o lines 1 thick 1;text t charter soot lines 1;");
        due("no layers: the first", 0, x.deepest(0));
        x.write(0, 0, 5);
        due("the last one", 5, x.deepest(0));
        x.write(0, 0, 2);
        due("of equal ones the first", 2, x.deepest(0));
        x.write(0, 0, 0);
        due("of equal ones the first", 0, x.deepest(0));
        x.scrape(0);
        x.write(0, 0, 5);
        due("two layers", 5, x.deepest(0));
        WornSkin next = Check.withLibrary("skin a lines 6 thick 9;skin b lines 2 thick 9;skin c lines 6 thick 9;text t charter soot lines 1;");
        next.write(0, 1, 1);
        due("the second line", 1, next.deepest(1));
        next.write(0, 1, 0);
        due("the first line", 0, next.deepest(1));
        due("lines of the next skin are none of its", 0, next.deepest(0));
        next.write(0, 2, 5);
        due("the last line of all", 5, next.deepest(2));
        says("BARE of a SKIN: lines without LAYERS that are no holes.");
        due("but 0, 1, 2 and 5", 0b011000, x.bare(0));
        x.write(0, 0, 3);
        x.write(0, 0, 4);
        due("none", 0, x.bare(0));
        due("one line", 1, x.bare(1));
        x.write(0, 1, 0);
        due("none", 0, x.bare(1));
        x.scrape(1);
        due("nothing is on one gone", 1, x.bare(1));
        due("nothing is on one gone", 0, x.deepest(1));
        WornSkin y = Check.withLibrary("skin s lines 6 thick 9;skin o lines 2 thick 9;hole o 0;hole o 1;");
        due("all six", 63, y.bare(0));
        due("all are holes", 0, y.bare(1));
        due("all are holes", 0, y.deepest(1));

        says("DEEPEST; NONE: others.");
        for (int wrong : Check.beyond(2)) {
            due("skin " + wrong, -1, x.deepest(wrong));
        }
        says("BARE, as bits; NONE: others.");
        for (int wrong : Check.beyond(2)) {
            due("skin " + wrong, -1, x.bare(wrong));
        }
    }

    private static void same() {
        says("SAME: pairs of lines (of all SKINS) with the same LAYERS, one at least.");
        WornSkin x = Check.withLibrary("skin a lines 6 thick 9;skin b lines 6 thick 9;skin c lines 6 thick 9;"
            + "text six charter soot lines 6;text one charter soot lines 1;");
        due("none with layers", 0, x.same());
        x.write(0, 0, 0);
        due("six lines", 15, x.same());
        x.write(0, 1, 0);
        due("twelve lines", 66, x.same());
        x.write(0, 2, 0);
        due("eighteen lines", 153, x.same());
        x.scrape(2);
        due("open or not", 153, x.same());
        WornSkin y = Check.withLibrary("skin a lines 3 thick 9;text p charter soot lines 1;text q charter soot lines 1;");
        y.write(0, 0, 0);
        due("one alone", 0, y.same());
        y.scrape(0);
        y.write(0, 0, 0);
        y.write(0, 0, 1);
        due("p and p is not p", 0, y.same());
        y.scrape(0);
        y.write(1, 0, 1);
        due("p and q is not p and p", 0, y.same());
        y.write(1, 0, 2);
        y.scrape(0);
        y.write(0, 0, 2);
        due("q and p is not p and q", 0, y.same());
        y.write(0, 0, 1);
        y.write(1, 0, 0);
        due("p p q, p q p, q p", 0, y.same());
        y.scrape(0);
        y.write(1, 0, 2);
        y.write(1, 0, 1);
        y.write(0, 0, 0);
        due("p p q p, p q p q, q p q", 0, y.same());
        WornSkin gone = Check.withLibrary("skin a lines 1 thick 9;skin b lines 1 thick 1;text p charter soot lines 1;");
        gone.write(0, 0, 0);
        gone.write(0, 1, 0);
        due("two", 1, gone.same());
        gone.scrape(1);
        due("nothing is on one gone", 0, gone.same());
    }

    private static void giveup() {
        says("GIVEUP: the SKIN by which, SCRAPED now, the fewest TEXTS that are WHOLE are so no more; of equal ones the first (one that can be).");
        String skins = "skin a lines 3 thick 9;skin b lines 3 thick 9;skin c lines 3 thick 1;"
            + "text p charter soot lines 1;text q charter soot lines 1;text r charter soot lines 2;";
        WornSkin x = Check.withLibrary(skins);
        x.write(0, 2, 0);
        due("the last one is the only one that can be", 2, x.giveup());
        x.write(1, 1, 0);
        due("of equal ones the first", 1, x.giveup());
        x.write(2, 0, 0);
        due("of three equal ones the first", 0, x.giveup());
        x.write(0, 0, 2);
        due("p is elsewhere, too: 0 by c", 2, x.giveup());
        x.write(1, 0, 2);
        due("what can't be written changes nothing", 2, x.giveup());
        x.write(0, 1, 1);
        due("q alone by b, r alone by a, none by c", 2, x.giveup());
        WornSkin y = Check.withLibrary(skins + "damp 9;");
        y.write(0, 2, 0);
        y.write(1, 1, 0);
        due("by damp b's is whole still; c would be gone", 1, y.giveup());
        y.write(0, 0, 0);
        due("a's, too: the first", 0, y.giveup());
        WornSkin under = Check.withLibrary(skins + "damp 9;");
        under.write(2, 0, 0);
        under.scrape(0);
        under.write(0, 0, 0);
        under.write(1, 0, 1);
        due("one alone", 0, under.giveup());
        due("nothing is done", 3, under.skin(0, 3));
        WornSkin six = Check.withLibrary("skin a lines 6 thick 9;skin b lines 6 thick 9;text k oath gall lines 1;text l oath gall lines 1;"
            + "text m oath gall lines 1;text n oath gall lines 1;text o oath gall lines 1;text p oath gall lines 1;");
        for (int text = 0; text < 6; text++) {
            six.write(text, 1, text);
        }
        due("all six by the only one that can be", 1, six.giveup());
        six.write(0, 0, 0);
        due("none by the other one", 0, six.giveup());

        says("GIVEUP; NONE: none can be.");
        due("nothing was written", -1, Check.withLibrary(skins).giveup());
        due("nothing lies open", -1, scraped(skins, 0).giveup());
        due("nothing told", -1, new WornSkin().giveup());
    }

    private static void see() {
        says("SEEN: that an unknown TEXT, so many LAYERS deep (1 to 9), by a damp (0 to 9)");
        WornSkin x = Check.withLibrary(ONE);
        for (int wrong : new int[] {LEAST, -1, 0, 10, MOST}) {
            due("deep " + wrong, false, x.see(0, wrong, 0, false));
        }
        for (int wrong : new int[] {LEAST, -1, 10, MOST}) {
            due("damp " + wrong, false, x.see(0, 1, wrong, false));
        }
        for (int wrong : Check.beyond(1)) {
            due("skin " + wrong, false, x.see(wrong, 1, 0, false));
        }
        due("nothing was seen", 0, x.count(9));
        due("deep 1", true, x.see(0, 1, 0, false));
        due("deep 9", true, x.see(0, 9, 9, false));

        says("as thick as a SKIN is now");
        WornSkin thin = Check.withLibrary("skin s lines 1 thick 1;skin o lines 1 thick 30;text a charter soot lines 1;"
            + "text b charter gall lines 1;shows bite and 29<thin;");
        due("30 thick", true, thin.see(1, 1, 0, true));
        due("by that one b shows", 2, thin.who());
        due("1 thick", true, thin.see(0, 1, 0, false));
        due("by the other one it does not", 2, thin.who());
        due("by that one nothing parts them", -1, thin.ask(0));

        says("shows, or does not; 8 at most");
        for (int i = 3; i <= 8; i++) {
            due("the one " + i, true, x.see(0, 1, 9, true));
            due("so many", i, x.count(9));
        }
        says("SEEN: true; false: others, 8 there are.");
        due("a ninth", false, x.see(0, 1, 0, true));
        due("a ninth", 8, x.count(9));
        due("it does not count: 2 < 9 shows", 1, x.who());
    }

    private static void who() {
        says("WHO: TEXTS by which all SEEN is so (bits; SKINS as thick as they are when it is asked).");
        due("no text", 0, Check.withLibrary("skin s lines 1 thick 9;").who());
        String texts = "text a charter soot lines 1;text b charter gall lines 1;text c psalm soot lines 1;"
            + "text d psalm gall lines 1;text e recipe soot lines 1;text f recipe gall lines 1;";
        WornSkin x = Check.withLibrary("skin s lines 1 thick 9;" + texts);
        due("nothing seen: all", 63, x.who());
        // By damp 9, 5 deep: 10 < 9, 9 < 9, 10 < 10, 9 < 10, 8 < 9, 7 < 9.
        due("seen", true, x.see(0, 5, 9, true));
        due("three show", 0b111000, x.who());
        due("seen", true, x.see(0, 5, 8, false));
        due("8 < 8, 7 < 8; 9 < 9", 0b011000, x.who());
        due("seen", true, x.see(0, 9, 9, true));
        due("9 deep: 16 < 9", 0, x.who());
        WornSkin y = Check.withLibrary("skin s lines 1 thick 2;skin o lines 1 thick 2;text a charter soot lines 1;"
            + "text b charter gall lines 1;shows thin=1 and bite or (thin=0 and not bite);");
        y.see(0, 1, 0, true);
        due("2 thick", 0, y.who());
        y.write(0, 0, 0);
        y.scrape(0);
        due("1 thick", 2, y.who());
        y.write(0, 0, 0);
        y.scrape(0);
        due("gone: 0 thick", 1, y.who());
        due("one gone can be seen", true, y.see(0, 1, 0, true));
        y.undo();
        due("1 thick again", 2, y.who());
        y.see(1, 1, 0, false);
        due("by the other one", 2, y.who());
        y.see(1, 1, 0, true);
        due("it can't be both", 0, y.who());
    }

    private static void ask() {
        says("ASK for a SKIN: so many deep (1 to 9) and a damp (0 to 9) by which the greater number of WHO that show, or do not,"
            + " is the least, if that is less than all; of equal ones the first by deep, then damp.");
        String two = "skin s lines 1 thick 1;text a charter soot lines 1;text b charter gall lines 1;";
        due("the first", 10, Check.withLibrary(two + "shows bite;").ask(0));
        due("the last", 99, Check.withLibrary(two + "shows bite and deep=9 and wet=9;").ask(0));
        due("by deep, then damp", 19, Check.withLibrary(two + "shows bite and 18<deep*10+wet;").ask(0));
        due("deep 10 is none", -1, Check.withLibrary(two + "shows bite and deep=10;").ask(0));
        due("damp 10 is none", -1, Check.withLibrary(two + "shows bite and wet=10;").ask(0));
        due("deep 0 is none", -1, Check.withLibrary(two + "shows bite and deep=0;").ask(0));
        due("all show: not less than all", -1, Check.withLibrary(two + "shows 1;").ask(0));
        due("none show: not less than all", -1, Check.withLibrary(two + "shows 0;").ask(0));
        due("one text", -1, Check.withLibrary(ONE + "shows wet;").ask(0));
        due("no text", -1, Check.withLibrary("skin s lines 1 thick 1;").ask(0));
        String four = two + "text c psalm soot lines 1;text d recipe soot lines 1;";
        // wet 10 is of the psalm alone; deep 8 by damp 3 of gall and the psalm (damp 3 is wet 4 for it).
        String law = "shows deep=1 and wet=10 or (deep=8 and (bite and wet=3 or (wet=4)));";
        due("two and two are better than one and three", 83, Check.withLibrary(four + law).ask(0));
        WornSkin x = Check.withLibrary(four + law);
        x.see(0, 8, 3, true);
        due("of these two", 0b0110, x.who());
        due("the first that parts them", 19, x.ask(0));
        x.see(0, 1, 9, true);
        due("one is left", -1, x.ask(0));
        x.see(0, 1, 9, false);
        due("none is left", -1, x.ask(0));
        // 1 deep by damp 0 the psalm alone shows, by damp 1 the two charters.
        WornSkin some = Check.withLibrary(four + "shows deep=1 and wet=1 or (deep=2 and bite);");
        some.see(0, 1, 0, false);
        due("not the psalm", 0b1011, some.who());
        due("the first that parts these three", 11, some.ask(0));
        some.see(0, 1, 1, true);
        due("the charters", 0b0011, some.who());
        due("the psalm is none of them, so 1 deep parts nothing", 20, some.ask(0));
        WornSkin gone = scraped(two + "shows bite and thin=0;", 0);
        due("one gone is 0 thick", 10, gone.ask(0));
        gone.undo();
        due("1 thick", -1, gone.ask(0));

        says("ASK, as 10 times how deep and the damp; NONE: others, none parts them.");
        WornSkin y = Check.withLibrary(two + "shows bite;");
        for (int wrong : Check.beyond(1)) {
            due("skin " + wrong, -1, y.ask(wrong));
        }
    }

    private static void chance() {
        says("CHANCE: each of so many (1 to 6) WEEKS from this one on has a damp of 9 by odds of ten, else of 0, in place of what is told:"
            + " that a TEXT is WHOLE in one of these, or more, in millionths, cut.");
        WornSkin wet = scraped(ONE + "shows wet=9;damp 9;", 0);
        WornSkin dry = scraped(ONE + "shows wet=0;damp 0;", 0);
        WornSkin both = scraped(ONE + "shows not wet or wet=9;damp 5;", 0);
        WornSkin neither = scraped(ONE + "shows 0<wet and wet<9;damp 5;", 0);
        int[] never = {1000000, 531441, 262144, 117649, 46656, 15625, 4096, 729, 64, 1, 0};
        for (int odds = 0; odds <= 10; odds++) {
            due("6 weeks by " + odds, 1000000 - never[odds], wet.chance(0, 6, odds));
            due("6 dry weeks by " + odds, 1000000 - never[10 - odds], dry.chance(0, 6, odds));
            due("1 week by " + odds, 100000 * odds, wet.chance(0, 1, odds));
            due("1 dry week by " + odds, 1000000 - 100000 * odds, dry.chance(0, 1, odds));
            due("by both", 1000000, both.chance(0, 1, odds));
            due("by neither", 0, neither.chance(0, 6, odds));
        }
        int[] halves = {500000, 750000, 875000, 937500, 968750, 984375};
        for (int weeks = 1; weeks <= 6; weeks++) {
            due(weeks + " weeks by 5", halves[weeks - 1], wet.chance(0, weeks, 5));
        }

        says("CHANCE, by odds (0 to 10); NONE: others.");
        for (int wrong : new int[] {LEAST, -1, 0, 7, MOST}) {
            due("weeks " + wrong, -1, wet.chance(0, wrong, 5));
        }
        for (int wrong : new int[] {LEAST, -1, 11, MOST}) {
            due("odds " + wrong, -1, wet.chance(0, 1, wrong));
        }
        for (int wrong : Check.beyond(1)) {
            due("text " + wrong, -1, wet.chance(wrong, 1, 5));
        }
    }

    private static void restsAll() {
        says("both read: each loses so much (0 to 9); one reads: he gets so much (0 to 9), the other one so much (0 to 9);"
            + " both wait: nothing: RESTS: by which neither would get more by the other.");
        WornSkin x = new WornSkin();
        due("a loss of 2 by both, 5 by reading alone, 1 by waiting then", 2, Check.rests(x, 2, 5, 1, -1));
        says("what NONE: how many; i: the i-th as 2 * the first one's choice + the other one's (1 reads; the least first)");
        for (int lose : new int[] {0, 1, 9}) {
            for (int reads : new int[] {0, 1, 9}) {
                for (int waits : new int[] {0, 1, 9}) {
                    // He who reads alone never gets less than nothing, he who waits then never less than by reading, too.
                    boolean bothWait = reads == 0;
                    boolean bothRead = lose == 0 && waits == 0;
                    int many = 2 + (bothWait ? 1 : 0) + (bothRead ? 1 : 0);
                    String game = lose + ", " + reads + ", " + waits;
                    due(game, many, Check.rests(x, lose, reads, waits, -1));
                    int i = 0;
                    if (bothWait) {
                        due(game, 0, Check.rests(x, lose, reads, waits, i++));
                    }
                    due(game, 1, Check.rests(x, lose, reads, waits, i++));
                    due(game, 2, Check.rests(x, lose, reads, waits, i++));
                    if (bothRead) {
                        due(game, 3, Check.rests(x, lose, reads, waits, i++));
                    }
                    due(game + ": none such", -100, Check.rests(x, lose, reads, waits, i));
                }
            }
        }
    }

    private static void restsOthers() {
        says("NoSuchElementException: others, none such.");
        WornSkin x = new WornSkin();
        for (int wrong : new int[] {LEAST, -1, 10, MOST}) {
            for (int what = -1; what <= 0; what++) {
                due("lose " + wrong, -100, Check.rests(x, wrong, 0, 0, what));
                due("reads " + wrong, -100, Check.rests(x, 0, wrong, 0, what));
                due("waits " + wrong, -100, Check.rests(x, 0, 0, wrong, what));
            }
        }
        for (int wrong : new int[] {LEAST, -2, 4, 5, MOST}) {
            due("what " + wrong, -100, Check.rests(x, 0, 0, 0, wrong));
        }
        due("all four", 4, Check.rests(x, 0, 0, 0, -1));
        due("the fourth", 3, Check.rests(x, 0, 0, 0, 3));
    }

    private static void yearsBounds() {
        says("YEARS by a SEED of so many WEEKS (1 to 99), from now on");
        // Nothing can be written or scraped here, so the weeks alone go by.
        WornSkin x = Check.withLibrary("skin s lines 1 thick 30;text t charter soot lines 1;damp 9 0 0 0 0 0 0 0 0;");
        for (int n = 0; n < 9; n++) {
            x.write(0, 0, 0);
            x.scrape(0);
        }
        for (int weeks = 1; weeks <= 99; weeks++) {
            due(weeks + " weeks", weeks % 9 == 0 ? 1 : 0, x.years(0, weeks, 1));
        }
        due("nothing is written", 0, x.years(0, 99, 0));
        due("as thick as now", 21, x.years(0, 99, 2));
        x.week();
        due("from now on", 1, x.years(0, 98, 1));
        due("from now on", 0, x.years(0, 99, 1));

        says("YEARS by a SEED (0 to 9999), what 0: how often, 1: bits, 2: how thick; NONE: others.");
        due("seed 0", 21, x.years(0, 1, 2));
        due("seed 9999", 21, x.years(9999, 1, 2));
        for (int wrong : new int[] {LEAST, -1, 10000, MOST}) {
            due("seed " + wrong, -1, x.years(wrong, 1, 2));
        }
        for (int wrong : new int[] {LEAST, -1, 0, 100, MOST}) {
            due("weeks " + wrong, -1, x.years(0, wrong, 2));
        }
        for (int wrong : Check.beyond(3)) {
            due("what " + wrong, -1, x.years(0, 1, wrong));
        }
    }

    /** The draws (g / 65536) of 0: 0, 21468, 9988; of 1: 16838, 5758, 10113, 17515, 31051, 5627, 23010; of 9999: 4241, 233, 22049, 17954. */
    private static void yearsDraws() {
        says("a DRAW below TEXTS, one below SKINS, one below 6: that TEXT is WRITTEN there from that line on, if it can be");
        WornSkin one = Check.withLibrary(ONE);
        due("line 9988 % 6 = 4", 1, one.years(0, 1, 0));
        due("line 22049 % 6 = 5", 1, one.years(9999, 1, 0));
        WornSkin two = Check.withLibrary("skin s lines 6 thick 9;text t charter soot lines 2;");
        due("from 4 on", 1, two.years(0, 1, 0));
        due("from 5 on", 0, two.years(9999, 1, 0));
        due("17954 % 3 = 2: nothing is scraped", 9, two.years(9999, 1, 2));
        WornSkin three = Check.withLibrary("skin s lines 1 thick 9;skin o lines 6 thick 9;"
            + "text t charter soot lines 6;text u charter soot lines 6;text v charter soot lines 1;");
        // 16838 % 3 = 2: v; 5758 % 2 = 0: s; 10113 % 6 = 3: beyond
        due("v beyond the one line of s", 0, three.years(1, 1, 0));

        says("else a DRAW below 3: 0: SCRAPE, 1: THIRD (if it can be); then the WEEK");
        // Line 0 is drawn by the seeds 14, 35, 13; then 0, 1, 2 below 3.
        WornSkin y = Check.withLibrary(ONE);
        y.write(0, 0, 0);
        y.write(0, 0, 1);
        due("scrape", 8, y.years(14, 1, 2));
        due("all of it", 0, y.years(14, 1, 1));
        due("third", 8, y.years(35, 1, 2));
        due("line 1 lies open", 1, y.years(35, 1, 1));
        due("nothing", 9, y.years(13, 1, 2));
        due("both lie open", 1, y.years(13, 1, 1));
        for (int seed : new int[] {14, 35, 13}) {
            due("it was not written", 0, y.years(seed, 1, 0));
        }
        y.undo();
        y.undo();
        y.write(0, 0, 1);
        due("line 1 alone: written by line 0", 1, y.years(14, 1, 0));
        WornSkin can = Check.withLibrary("skin s lines 6 thick 9;hole s 0;text t charter soot lines 1;");
        due("scrape can't be", 9, can.years(14, 1, 2));
        due("third can't be", 9, can.years(35, 1, 2));
        can.write(0, 0, 1);
        due("scrape can be", 8, can.years(14, 1, 2));
        due("third can't be", 9, can.years(35, 1, 2));
        // Of two weeks by 1: from 3 on; then 5627 % 6 = 5: beyond, 23010 % 3 = 0: scrape.
        due("no draw below 3 where one is written", 1, two.years(1, 2, 0));
        due("so the second week scrapes", 8, two.years(1, 2, 2));
        WornSkin gone = Check.withLibrary("skin s lines 6 thick 1;text t charter soot lines 2;");
        due("it is gone by that", 0, gone.years(1, 2, 2));
        due("nobody is whole", 0, gone.years(1, 2, 1));
        due("one was written", 1, gone.years(1, 2, 0));

        says("(all is as ahead then)");
        String ahead = Check.picture(gone);
        gone.years(1, 99, 0);
        CHECK.duePicture("years", ahead, gone);
    }

    private static void yearsLong() {
        says("A DRAW below m: g becomes (g * 1103515245 + 12345) modulo 2147483648 (g is the SEED at first); it is g / 65536, cut, modulo m.");
        for (int seed : new int[] {0, 1, 2, 4999, 9998, 9999}) {
            OneSkin plain = new OneSkin(seed);
            WornSkin x = Check.withLibrary("skin s lines 6 thick 30;text t charter soot lines 1;");
            for (int weeks = 1; weeks <= 99; weeks++) {
                plain.live();
                due("written by " + seed + " in " + weeks, plain.written, x.years(seed, weeks, 0));
                due("whole by " + seed + " in " + weeks, plain.open == 0 ? 0 : 1, x.years(seed, weeks, 1));
                due("thick by " + seed + " in " + weeks, plain.thick, x.years(seed, weeks, 2));
            }
        }

        says("how often one was WRITTEN; who is WHOLE at last, as bits; how thick all SKINS are, together");
        WornSkin two = Check.withLibrary("skin s lines 6 thick 9;skin o lines 6 thick 30;text t oath gall lines 6;text u oath gall lines 1;");
        // 16838 % 2 = 0: t; 5758 % 2 = 0: s; from 3 on: beyond; 17515 % 3 = 1: nothing is there.
        due("none was", 0, two.years(1, 1, 0));
        due("none is", 0, two.years(1, 1, 1));
        due("both skins", 39, two.years(1, 1, 2));
        two.write(1, 0, 1);
        two.write(0, 1, 0);
        due("what is there already is not one that was", 0, two.years(1, 1, 0));
        due("but is whole", 3, two.years(1, 1, 1));
    }

    /** YEARS of one skin of six lines, 30 thick, and one text of one line, of soot, by damp 0. */
    private static final class OneSkin {
        private static final BigInteger TIMES = BigInteger.valueOf(1103515245);
        private static final BigInteger MORE = BigInteger.valueOf(12345);
        private static final BigInteger BELOW = BigInteger.valueOf(2147483648L);
        private BigInteger g;
        private int open;
        private final int[] layers = new int[6];
        private int thick = 30;
        private int written;

        OneSkin(int seed) {
            g = BigInteger.valueOf(seed);
        }

        private int draw(int m) {
            g = g.multiply(TIMES).add(MORE).mod(BELOW);
            return (int) (g.longValueExact() / 65536 % m);
        }

        void live() {
            draw(1);
            draw(1);
            int line = draw(6);
            if ((open >> line & 1) == 0 && layers[line] < 9 && thick > 0) {
                open |= 1 << line;
                layers[line]++;
                written++;
                return;
            }
            int act = draw(3);
            int rubbed = act == 0 ? open : act == 1 ? open & 9 : 0;
            if (rubbed != 0) {
                thick--;
                open = thick == 0 ? 0 : open & ~rubbed;
            }
        }
    }

    private static void yearsNothingTold() {
        says("each, if there are TEXTS and SKINS");
        WornSkin none = new WornSkin();
        WornSkin skins = Check.withLibrary("skin s lines 1 thick 30;skin o lines 1 thick 30;skin n lines 1 thick 30;");
        WornSkin texts = Check.withLibrary("text t oath gall lines 1;");
        for (int what = 0; what <= 2; what++) {
            due("nothing told", 0, none.years(9999, 99, what));
            due("no texts", what == 2 ? 90 : 0, skins.years(9999, 99, what));
            due("no skins", 0, texts.years(9999, 99, what));
        }
    }

    private static void marksHold() {
        says("MARKS 0 to 3 hold how it is, the YEAR, what is SEEN (nothing can be undone when one is gone back to).");
        WornSkin x = Check.withLibrary("skin s lines 4 thick 1;skin o lines 2 thick 9;text t charter soot lines 1;damp 1 2;");
        x.write(0, 0, 1);
        x.write(0, 1, 0);
        x.scrape(1);
        x.week();
        x.see(1, 1, 2, false);
        Check.readYear(x, "week;scrape o;");
        due("laid", true, x.mark(0, false));
        due("what can be undone stays", 4, x.count(10));
        String ahead = Check.picture(x).replace(" 1 4 0 |", " 1 0 0 |");
        x.scrape(0);
        due("one is gone", 1, x.count(5));
        x.write(0, 1, 1);
        x.week();
        x.see(0, 1, 1, true);
        Check.readYear(x, "week;");
        due("gone back to", true, x.mark(0, true));
        CHECK.duePicture("how it was", ahead, x);
        due("nothing can be undone", false, x.undo());
        x.week();
        due("gone back to again", true, x.mark(0, true));
        CHECK.duePicture("how it was", ahead, x);
        for (int i = 0; i < 7; i++) {
            due("the seen ones are held with their number", true, x.see(1, 1, 2, false));
        }
        due("a ninth", false, x.see(1, 1, 2, false));
        Check.feed(x, "week");
        x.mark(0, true);
        due("the tape is none of it", 4, x.count(11));
        due("one is seen", 1, x.count(9));
        x.year();
        due("what can be undone from then on", 2, x.week());
        due("what can be undone from then on", true, x.undo());
        due("and no more", false, x.undo());
    }

    private static void marksHoldSeen() {
        says("MARKS 0 to 3 hold how it is, the YEAR, what is SEEN (nothing can be undone when one is gone back to).");
        // By each of these the text that shows is another one than by the first.
        seenHeld("shows bite=(thin=9);", 1, 1, 0, true);
        seenHeld("shows bite=(deep=1);", 0, 2, 0, true);
        seenHeld("shows bite=(wet=0);", 0, 1, 1, true);
        seenHeld("shows bite;", 0, 1, 0, false);
    }

    private static void seenHeld(String law, int skin, int deep, int damp, boolean shows) {
        WornSkin x = Check.withLibrary("skin s lines 1 thick 9;skin o lines 1 thick 8;text a charter soot lines 1;"
            + "text b charter gall lines 1;" + law);
        x.mark(0, false);
        x.see(0, 1, 0, true);
        due("seen by " + law, 2, x.who());
        x.mark(1, false);
        x.mark(0, true);
        due("nothing seen", 3, x.who());
        x.see(skin, deep, damp, shows);
        due("seen otherwise by " + law, 1, x.who());
        x.mark(2, false);
        x.mark(1, true);
        due("held by " + law, 2, x.who());
        x.mark(2, true);
        due("held otherwise by " + law, 1, x.who());
    }

    private static void marksWhich() {
        says("A MARK is laid (back: gone back to): true; false: none such, nothing is on it (back).");
        WornSkin x = new WornSkin();
        for (int wrong : Check.beyond(4)) {
            due("mark " + wrong, false, x.mark(wrong, false));
            due("mark " + wrong, false, x.mark(wrong, true));
        }
        for (int mark = 0; mark < 4; mark++) {
            due("nothing is on it", false, x.mark(mark, true));
            due("laid", true, x.mark(mark, false));
            x.week();
        }
        due("what is refused is nothing", 4, x.count(10));
        due("week 4", 4, x.count(2));
        for (int mark = 3; mark >= 0; mark--) {
            due("each for itself", true, x.mark(mark, true));
            due("week " + mark, mark, x.count(2));
        }
        x.mark(3, true);
        due("it stays", 3, x.count(2));
        due("laid over", true, x.mark(0, false));
        x.week();
        due("gone back to", true, x.mark(0, true));
        due("the later one", 3, x.count(2));
        due("a fault leaves it", 1, Check.readLibrary(x, "oops"));
        due("a fault leaves it", true, x.mark(1, true));
        due("a library takes it", 0, x.library());
        for (int mark = 0; mark < 4; mark++) {
            due("a library takes it", false, x.mark(mark, true));
        }
        x.week();
        due("a refused going back", false, x.mark(2, true));
        due("leaves what can be undone", true, x.undo());
    }

    private static void count() {
        says("NONE for another what.");
        WornSkin x = Check.withLibrary(ONE);
        for (int wrong : Check.beyond(12)) {
            due("what " + wrong, -1, x.count(wrong));
        }
    }

    private static void countFull() {
        says("What 0: SKINS, 1: TEXTS, 2: the week, 3: its damp, 4: how thick all SKINS are, together, 5: which are GONE, as bits,"
            + " 6: LAYERS of all, 7: TEXTS that are WHOLE, as bits, 8: lines of the YEAR, 9: SEEN, 10: what can be undone, 11: signs on the TAPE.");
        WornSkin x = Check.withLibrary("skin a lines 6 thick 30;skin b lines 6 thick 30;skin c lines 6 thick 30;"
            + "text p charter soot lines 6;text q charter soot lines 6;text r charter soot lines 6;"
            + "text s charter soot lines 1;text t charter soot lines 1;text u oath gall lines 1;damp 9;");
        due("together", 90, x.count(4));
        for (int n = 0; n < 9; n++) {
            for (int skin = 0; skin < 3; skin++) {
                x.write(skin, skin, 0);
                x.scrape(skin);
            }
        }
        Check.readYear(x, "week;".repeat(40));
        for (int i = 0; i < 8; i++) {
            x.see(0, 1, 1, true);
        }
        Check.feed(x, " ".repeat(1000));
        int[] want = {3, 6, 0, 9, 63, 0, 162, 7, 40, 8, 16, 1000};
        for (int what = 0; what < want.length; what++) {
            due("what " + what, want[what], x.count(what));
        }
        WornSkin y = Check.withLibrary("skin a lines 1 thick 1;skin b lines 1 thick 1;skin c lines 1 thick 1;text t charter soot lines 1;");
        int[] gone = {4, 6, 7};
        for (int i = 0; i < 3; i++) {
            y.write(0, 2 - i, 0);
            due("a layer", 1, y.count(6));
            y.scrape(2 - i);
            due("gone", gone[i], y.count(5));
            due("together", 2 - i, y.count(4));
            due("no layer", 0, y.count(6));
        }
    }

    /** What is asked changes nothing that can be seen. */
    private static void nothingIsDone() {
        says("(WEEKS going by, nothing else being done.)");
        WornSkin x = Check.withLibrary("skin s lines 4 thick 5;skin o lines 2 thick 1;text t charter soot lines 2;text u oath gall lines 1;damp 0 9;");
        x.write(0, 0, 0);
        x.scrape(0);
        x.write(1, 0, 0);
        x.write(1, 1, 0);
        Check.readYear(x, "write t s 0;scrape s;week;");
        x.see(0, 1, 9, true);
        String ahead = Check.picture(x);
        for (int i = -1; i <= 2; i++) {
            x.later(i, 0, 3);
            x.when(i);
            x.need(i);
            x.psalter(i);
            x.lay(i);
            x.over(i);
            x.deepest(i);
            x.bare(i);
            x.ask(i);
            x.judged(i);
            x.years(7, 9, i);
            for (int j = -1; j <= 2; j++) {
                x.place(i, j);
                x.cost(i, j);
                x.bears(i, j);
                x.chance(i, 3, 3 + j);
            }
        }
        x.lost();
        x.same();
        x.giveup();
        x.who();
        CHECK.duePicture("asking", ahead, x);
    }
}
