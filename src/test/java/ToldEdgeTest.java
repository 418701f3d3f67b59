/** Part 1 of the Terms and promises 1 to 4: each sentence of the document that names an edge, from both of its sides. */
public final class ToldEdgeTest {
    private static final String TWO = "skin a lines 2 thick 3;skin b lines 6 thick 30;";
    private static final String FULL = TWO + "text t oath gall lines 2;text u psalm soot lines 1;";
    private static final String TWELVE = "damp 0 1 2 3 4 5 6 7 8 9 0 1";
    private static final Check CHECK = new Check();

    public static void main(String[] args) {
        newObject();
        tapeFull();
        tapeSigns();
        tapeTaken();
        tokensAsLong();
        wordsAndNumbers();
        signsAndOthers();
        anyNumber();
        forms();
        skins();
        holes();
        texts();
        damps();
        onceEach();
        years();
        names();
        tests();
        parts();
        partsWithin();
        facts();
        truths();
        untoldLaw();
        placesOfFaults();
        firstAndLeast();
        kindsOfFaults();
        newLibrary();
        allStays();
        newYear();
        CHECK.end("ToldEdgeTest");
    }

    private static void says(String words) {
        CHECK.says(words);
    }

    private static void due(String call, long want, long got) {
        CHECK.due(call, want, got);
    }

    private static void due(String call, boolean want, boolean got) {
        CHECK.due(call, want, got);
    }

    private static void library(int kind, String marked) {
        CHECK.dueLibrary(kind, marked);
    }

    private static void sound(String library) {
        CHECK.dueLibrary(0, library);
    }

    private static void year(int kind, String marked) {
        CHECK.dueYear(kind, FULL, marked);
    }

    private static String times(int n, String part) {
        return part.repeat(n);
    }

    private static void newObject() {
        says("Nothing.");
        WornSkin x = new WornSkin();
        for (int what = 0; what <= 11; what++) {
            due("count " + what, 0, x.count(what));
        }
        due("skin", -1, x.skin(0, 0));
        due("text", -2, x.text(0, 0));
        due("layers", -1, x.layers(0, 0));
        due("layer", -1, x.layer(0, 0, 0));
        due("read", -1, x.read(0, 0));
        due("write", false, x.write(0, 0, 0));
        due("scrape", -1, x.scrape(0));
        due("third", -1, x.third(0));
        due("undo", false, x.undo());
        due("judged: no line", -1, x.judged(0));
        due("judged: none gone", -1, x.judged(1));
        due("judged: none whole", 0, x.judged(2));
        due("lost", 0, x.lost());
        due("lay", 0, x.lay(-1));
        due("same", 0, x.same());
        due("giveup", -1, x.giveup());
        due("who", 0, x.who());
        due("ask", -1, x.ask(0));
        due("see", false, x.see(0, 1, 1, true));
        for (int mark = 0; mark < 4; mark++) {
            due("mark " + mark, false, x.mark(mark, true));
        }
        due("the first week", 1, x.week());
        says("At first: nothing.");
        WornSkin y = new WornSkin();
        due("a year of weeks needs no library", 0, Check.readYear(y, "week;"));
        due("no skin is told", 2 + 16 * 7, Check.readYear(y, "scrape a;"));
        due("no text is told", 2 + 16 * 6, Check.readYear(y, "write t a 0;"));
        due("a mark can be laid", true, y.mark(0, false));
    }

    private static void tapeFull() {
        says("The TAPE has at most 1,000 signs");
        WornSkin x = new WornSkin();
        Check.feed(x, times(999, " "));
        due("999", 999, x.count(11));
        due("the thousandth", 1000, x.feed(' ', 0, 0));
        due("no more", 1000, x.feed(' ', 0, 0));
        due("by 24 no more", 1000, x.feed(0x2020202020202020L, 0x2020202020202020L, 0x2020202020202020L));
        WornSkin y = new WornSkin();
        Check.feed(y, times(984, " "));
        due("16 of 24", 1000, y.feed(0x2020202020202020L, 0x2020202020202020L, 0x2020202020202020L));

        says("and what is beyond 1,000, are left out: how many there are");
        WornSkin z = new WornSkin();
        Check.feed(z, times(995, " ") + "week;week;");
        due("how many", 1000, z.count(11));
        due("the first 1,000 are read", 0, z.year());
        due("what is beyond is not", 1, z.count(8));
        Check.feed(z, times(996, " ") + "week;");
        due("the last sign is beyond", 1 + 16 * 1000, z.year());
        due("behind that it is empty, and takes signs", 5, z.feed(Check.eight("week;", 0), 0, 0));
        due("they are read", 0, z.year());
    }

    private static void tapeSigns() {
        says("10 and 32 .. 126");
        WornSkin x = new WornSkin();
        int kept = 0;
        for (int sign = 0; sign < 256; sign++) {
            kept += sign == 10 || (sign >= 32 && sign <= 126) ? 1 : 0;
            due("the sign " + sign, kept, x.feed((long) sign << 56, 0, 0));
        }
        due("in all", 96, x.count(11));

        says("others than 10 and 32 .. 126");
        WornSkin y = new WornSkin();
        due("none at all", 0, y.feed(0, 0, 0));
        due("24 others", 0, y.feed(-1, -1, -1));
        due("a sign left out parts no word", 5, y.feed(Check.eight("w\te\re\u007fk;", 0), 0, 0));
        due("so it is read", 0, y.year());

        says("Up to 24 signs come behind the TAPE: the bytes of a, b, c, of each the highest first");
        due("one of each", 3, y.feed('w', (long) 'e' << 56, (long) 'e' << 24));
        due("behind it", 5, y.feed((long) 'k' << 32 | ';', 0, 0));
        due("so it is read", 0, y.year());
        due("a line", 1, y.count(8));
        due("24", 24, y.feed(Check.eight("skin a l", 0), Check.eight("ines 1 t", 0), Check.eight("hick 30;", 0)));
        due("in their order", 0, y.library());
        due("the last sign but one counts", 30, y.skin(0, 1));
    }

    private static void tapeTaken() {
        says("what reads it takes it: it is empty then");
        WornSkin x = new WornSkin();
        due("a sound library", 0, Check.readLibrary(x, TWO));
        due("is taken", 0, x.count(11));
        due("a year", 0, Check.readYear(x, "week;"));
        due("is taken", 0, x.count(11));
        due("a fault in a library", 1, Check.readLibrary(x, "oops"));
        due("is taken", 0, x.count(11));
        due("a fault in a year", 1, Check.readYear(x, "oops"));
        due("is taken", 0, x.count(11));
        due("an empty tape is a year", 0, x.year());
        due("of no line", 0, x.count(8));
        due("an empty tape is a library", 0, x.library());
        due("of no skin", 0, x.count(0));
        Check.feed(x, "week;");
        due("nothing else takes it", 0, x.judged(2));
        x.week();
        x.undo();
        x.mark(0, false);
        x.mark(0, true);
        due("nothing else takes it", 5, x.count(11));
        x.year();
        Check.readLibrary(x, "damp 99999999999999999999;");
        due("a number ends where the tape ends", 1 + 16 * 6, Check.readLibrary(x, "damp 1"));
        Check.readYear(x, "weekweekweekweekweekweek");
        due("a word ends where the tape ends", 1 + 16 * 4, Check.readYear(x, "week"));
        Check.readYear(x, "                            ");
        due("blanks end where the tape ends", 1 + 16 * 6, Check.readYear(x, "week  "));
        due("a number ends a full tape", 1 + 16 * 1000, Check.readLibrary(x, times(994, " ") + "damp 1"));
        due("a word ends a full tape", 1 + 16 * 1000, Check.readYear(x, times(996, " ") + "week"));
    }

    private static void tokensAsLong() {
        says("each as long as can be");
        year(1, "^weekweek;");
        library(4, "damp ^12;");
        library(1, "shows ^notwet;");
        library(1, "skin a lines 2 ^thickthi 3;");
        sound("shows((1<2)=3);");

        says("blanks (10, 32) between where one likes");
        sound("skin a lines1thick1;hole a 0;text t oath gall lines1;damp 1 2;shows 1and 1;");
        sound("\n skin \n\n a  lines 1\nthick\n\n1  ; \n");
        library(1, "^sk in a lines 1 thick 1;");
        library(1, "skin a lines 1 thick 1 ^2;");
        year(1, "^we\nek;");
        year(0, " \n");
        year(0, "");
    }

    private static void wordsAndNumbers() {
        says("WORDS (letters a .. z, 8 at most)");
        sound("skin a lines 1 thick 1;skin z lines 1 thick 1;");
        sound("skin abcdwxyz lines 1 thick 1;");
        library(1, "skin ^abcdwxyzz lines 1 thick 1;");
        library(1, "skin ^A lines 1 thick 1;");
        library(1, "skin ^Z lines 1 thick 1;");
        library(1, "skin ^` lines 1 thick 1;");
        library(1, "skin ^{ lines 1 thick 1;");
        library(1, "skin a^A lines 1 thick 1;");
        library(2, "skin abcdefgh lines 1 thick 1;hole ^abcdefgi 0;");
        library(2, "skin abcdefgh lines 1 thick 1;hole ^bbcdefgh 0;");
        library(2, "skin zzzzzzzz lines 1 thick 1;hole ^zzzzzzz 0;");

        says("NUMBERS (1 to 4 digits; a letter may stand right behind)");
        sound("shows 0;");
        sound("shows 9999;");
        sound("skin a lines 0006 thick 0030;");
        library(1, "skin a lines ^00006 thick 30;");
        library(1, "shows ^99999;");
        sound("skin a lines 6thick 30;");
        sound("shows 1and 2or 3;");
        library(1, "shows 1^a;");
        library(1, "shows ^/;");
        library(1, "shows ^:;");

        says("(a longer WORD or NUMBER, too, at its first sign)");
        library(1, "skin a lines 1 thick 1; ^" + times(9, "s"));
        library(1, "skin a lines 1 thick 1; ^" + times(900, "s"));
        library(1, "damp 1 ^" + times(5, "0") + ";");
        library(1, "damp 1 ^" + times(900, "0") + ";");
        library(1, "^thirdthird a;");
        year(1, "^thirdthird a;");
    }

    private static void signsAndOthers() {
        says("the signs ( ) < = + - * ;  All else");
        for (char sign = 33; sign <= 126; sign++) {
            boolean letter = sign >= 'a' && sign <= 'z';
            boolean digit = sign >= '0' && sign <= '9';
            if (!letter && !digit) {
                boolean joins = "<=+-*".indexOf(sign) >= 0;
                faultOf("shows 1 " + sign + " 1;", joins ? 0 : sign == ';' ? 1 + 16 * 10 : 1 + 16 * 8);
                faultOf("shows " + sign + "1);", sign == '(' ? 0 : 1 + 16 * 6);
                faultOf("shows (1" + sign + ";", sign == ')' ? 0 : joins ? 1 + 16 * 9 : 1 + 16 * 8);
                faultOf("damp 1" + sign, sign == ';' ? 0 : 1 + 16 * 6);
            }
        }
    }

    private static void faultOf(String library, int want) {
        due("library " + library, want, Check.readLibrary(new WornSkin(), library));
    }

    private static void anyNumber() {
        says("LIBRARY: any number of");
        WornSkin x = new WornSkin();
        due("none", 0, x.library());
        StringBuilder all = new StringBuilder("skin a lines 6 thick 1;skin b lines 6 thick 30;skin c lines 6 thick 9;");
        for (int i = 0; i < 18; i++) {
            all.append("hole ").append((char) ('a' + i % 3)).append(' ').append(i / 3).append(';');
        }
        for (int i = 0; i < 6; i++) {
            all.append("text t").append((char) ('a' + i)).append(" oath gall lines ").append(i + 1).append(';');
        }
        all.append(TWELVE).append(";shows 1;");
        due("all there can be", 0, Check.readLibrary(x, all.toString()));
        due("skins", 3, x.count(0));
        due("texts", 6, x.count(1));
        for (int skin = 0; skin < 3; skin++) {
            due("every line a hole", 63, x.skin(skin, 2));
        }
        sound("shows 1;damp 1;text t oath gall lines 1;skin a lines 1 thick 1;");
        sound("text t oath gall lines 1;");
        sound("damp 1;");
        sound("shows 1;");

        says("YEAR: any number of");
        year(0, "");
        year(0, "week;");
        year(0, "write t a 0;scrape a;third b;week;week;third b;scrape a;write u b 5;");
        year(1, "^;");
    }

    private static void forms() {
        says("skin NAME lines N thick N ; hole NAME N ; text NAME KIND INK lines N ; damp N N .. ; shows E ;");
        libraryForm("", "skin", "n", "lines", "2", "thick", "3", ";");
        libraryForm(TWO, "hole", "b", "5", ";");
        libraryForm("", "text", "n", "psalm", "gall", "lines", "2", ";");
        libraryForm("", "damp", "7", ";");
        libraryForm("", "shows", "wet", ";");
        says("write NAME NAME N ; scrape NAME ; third NAME ; week ;");
        yearForm("scrape", "a", ";");
        yearForm("third", "b", ";");
        yearForm("week", ";");
        year(0, "write t a 5 ;");
        year(1, "^t a 5 ;");
        year(2, "write ^a 5 ;");
        year(1, "write t ^5 ;");
        year(1, "write t a ^;");
        year(1, "write t a 5 ^");
        year(1, "write ^write t a 5 ;");
        year(2, "write t ^t a 5 ;");
        year(1, "write t a ^a 5 ;");
        year(1, "write t a 5 ^5 ;");
        year(1, "write t a 5 ; ^;");
    }

    /** Sound as told; each token left out, and each told twice (but for damp's NUMBERS), is one that can't stand there. */
    private static void libraryForm(String ahead, String... tokens) {
        library(0, ahead + String.join(" ", tokens));
        for (int i = 0; i < tokens.length; i++) {
            library(1, ahead + without(i, tokens));
            if (!tokens[0].equals("damp") || i != 1) {
                library(1, ahead + twice(i, tokens));
            }
        }
    }

    private static void yearForm(String... tokens) {
        year(0, String.join(" ", tokens));
        for (int i = 0; i < tokens.length; i++) {
            year(1, without(i, tokens));
            year(1, twice(i, tokens));
        }
    }

    private static String without(int dropped, String... tokens) {
        StringBuilder text = new StringBuilder();
        for (int i = 0; i < tokens.length; i++) {
            text.append(i == dropped ? "^" : tokens[i] + " ");
        }
        return text.toString();
    }

    private static String twice(int doubled, String... tokens) {
        StringBuilder text = new StringBuilder();
        for (int i = 0; i < tokens.length; i++) {
            text.append(tokens[i]).append(i == doubled ? " ^" + tokens[i] + " " : " ");
        }
        return text.toString();
    }

    private static void skins() {
        says("skin: 3 at most, numbered as told");
        WornSkin x = Check.withLibrary("skin c lines 1 thick 2;skin b lines 3 thick 4;skin a lines 5 thick 6;");
        due("the third", 3, x.count(0));
        for (int skin = 0; skin < 3; skin++) {
            due("lines", 2 * skin + 1, x.skin(skin, 0));
            due("thick", 2 * skin + 2, x.skin(skin, 1));
        }
        due("no fourth", -1, x.skin(3, 0));
        library(5, TWO + "skin c lines 1 thick 1;^skin d lines 1 thick 1;");

        says("lines 1 to 6, numbered from 0 on");
        library(4, "skin a lines ^0 thick 1;");
        sound("skin a lines 1 thick 1;");
        sound("skin a lines 6 thick 1;");
        library(4, "skin a lines ^7 thick 1;");
        library(4, "skin a lines ^9999 thick 1;");
        WornSkin y = Check.withLibrary("skin a lines 6 thick 1;text t psalm soot lines 1;");
        due("line 0", true, y.write(0, 0, 0));
        due("line 5", true, y.write(0, 0, 5));
        due("line 6", false, y.write(0, 0, 6));

        says("thick 1 to 30");
        library(4, "skin a lines 1 thick ^0;");
        sound("skin a lines 1 thick 1;");
        sound("skin a lines 1 thick 30;");
        library(4, "skin a lines 1 thick ^31;");
    }

    private static void holes() {
        says("hole: in a SKIN told, in a line of it, each once");
        library(2, "hole ^a 0;" + TWO);
        library(2, TWO + "hole ^c 0;");
        library(2, FULL + "hole ^t 0;");
        sound(TWO + "hole a 0;hole a 1;");
        library(4, TWO + "hole a ^2;");
        sound(TWO + "hole b 0;hole b 5;");
        library(4, TWO + "hole b ^6;");
        library(4, "skin a lines 1 thick 1;hole a ^1;");
        library(3, TWO + "hole a 0;hole a ^0;");
        library(3, TWO + "hole b 5;hole a 0;hole b ^5;");
        sound(TWO + "hole a 1;hole b 1;");
        WornSkin x = Check.withLibrary(TWO + "hole b 0;hole b 5;");
        due("its first and its last line", 33, x.skin(1, 2));
        due("the other one has none", 0, x.skin(0, 2));
        due("a library without holes", 0, Check.readLibrary(x, TWO));
        due("has none", 0, x.skin(1, 2));
    }

    private static void texts() {
        says("text: 6 at most, numbered as told");
        StringBuilder six = new StringBuilder();
        for (int i = 0; i < 6; i++) {
            six.append("text ").append((char) ('z' - i)).append(" oath gall lines ").append(6 - i).append(';');
        }
        WornSkin x = Check.withLibrary(six.toString());
        due("the sixth", 6, x.count(1));
        for (int text = 0; text < 6; text++) {
            due("lines", 6 - text, x.text(text, 2));
        }
        due("no seventh", -2, x.text(6, 0));
        library(5, six + "^text a oath gall lines 1;");

        says("KIND: charter, psalm, recipe, oath; INK: gall, soot");
        String[] kinds = {"charter", "psalm", "recipe", "oath"};
        for (int kind = 0; kind < 4; kind++) {
            WornSkin y = Check.withLibrary("text g " + kinds[kind] + " gall lines 1;text s " + kinds[kind] + " soot lines 1;");
            due(kinds[kind], kind, y.text(0, 0));
            due(kinds[kind], kind, y.text(1, 0));
            due("gall", 1, y.text(0, 1));
            due("soot", 0, y.text(1, 1));
        }
        library(1, "text a ^cure gall lines 1;");
        library(1, "text a ^gall oath lines 1;");
        library(1, "text a oath ^oath lines 1;");
        library(1, "text a oath ^lines 1;");
        library(1, "text a oath gall ^soot lines 1;");

        says("lines 1 to 6");
        library(4, "text a oath gall lines ^0;");
        sound("text a oath gall lines 1;");
        sound("text a oath gall lines 6;");
        library(4, "text a oath gall lines ^7;");
    }

    private static void damps() {
        says("damp 0 to 9 of one week behind another");
        sound("damp 0;");
        sound("damp 9;");
        library(4, "damp ^10;");
        library(4, "damp 0 ^10 11;");
        library(1, "damp ^-1;");
        WornSkin x = Check.withLibrary("damp 9 0;");
        due("week 0", 9, x.count(3));
        x.week();
        due("week 1", 0, x.count(3));

        says("1 to 12");
        library(1, "damp ^;");
        library(1, "damp^");
        sound(TWELVE + ";");
        library(5, TWELVE + " ^2;");

        says("again and again (0)");
        WornSkin y = Check.withLibrary(TWELVE.replace("damp 0", "damp 7") + ";");
        for (int week = 0; week < 12; week++) {
            due("week " + week, week == 0 ? 7 : week % 10, y.count(3));
            y.week();
        }
        due("week 12", 7, y.count(3));
        for (int week = 12; week < 24; week++) {
            y.week();
        }
        due("week 24", 7, y.count(3));
        WornSkin one = Check.withLibrary("damp 5;");
        for (int week = 0; week < 3; week++) {
            due("one damp, week " + week, 5, one.count(3));
            one.week();
        }
        WornSkin untold = Check.withLibrary(TWO);
        due("untold", 0, untold.count(3));
        untold.week();
        due("untold", 0, untold.count(3));
        due("a library without damp", 0, Check.readLibrary(one, TWO));
        due("has none", 0, one.count(3));
    }

    private static void onceEach() {
        says("damp, shows: once each");
        sound("damp 1;shows 1;");
        sound("shows 1;damp 1;");
        library(3, "damp 1;^damp 1;");
        library(3, "shows 1;damp 1;^shows 1;");
        library(3, "damp 1;shows 1;^damp 1;");
        WornSkin x = Check.withLibrary("damp 1;shows 1;");
        due("in each library anew", 0, Check.readLibrary(x, "damp 2;shows 2;"));
        due("the new one counts", 2, x.count(3));
        due("a fault behind both", 1 + 16 * 15, Check.readLibrary(x, "damp 3;shows 3;;"));
        due("then anew", 0, Check.readLibrary(x, "damp 4;shows 4;"));
    }

    private static void years() {
        says("(a TEXT on a SKIN from a line 0 to 5 on; a SKIN; a SKIN)");
        year(0, "write t a 0;");
        year(0, "write t a 5;");
        year(4, "write t a ^6;");
        year(4, "write t a ^9999;");
        year(1, "write t a ^;");
        year(2, "write ^a t 0;");
        year(2, "scrape ^t;");
        year(2, "third ^t;");
        year(1, "scrape ^;");
        year(1, "third ^;");
        year(1, "week ^a;");

        says("40 lines at most");
        year(0, times(39, "week;") + "scrape a;");
        year(5, times(40, "week;") + "^scrape a;");
        year(5, times(39, "week;") + "write u a 1;\n^week;");
        WornSkin x = new WornSkin();
        due("40", 0, Check.readYear(x, times(40, "week;")));
        due("40", 40, x.count(8));
        due("41", 5 + 16 * 200, Check.readYear(x, times(41, "week;")));
        due("the 40 stay", 40, x.count(8));
    }

    private static void names() {
        says("A NAME is another WORD than skin, lines, thick, hole, text, damp, shows, write, scrape, third, week,"
            + " gall, soot, the KINDS, not, and, or");
        for (String word : new String[] {"skin", "lines", "thick", "hole", "text", "damp", "shows", "write", "scrape",
            "third", "week", "gall", "soot", "charter", "psalm", "recipe", "oath", "not", "and", "or"}) {
            library(1, "skin ^" + word + " lines 1 thick 1;");
            library(1, "text ^" + word + " oath gall lines 1;");
            library(1, TWO + "hole ^" + word + " 0;");
            year(1, "write ^" + word + " a 0;");
            year(1, "write t ^" + word + " 0;");
            year(1, "scrape ^" + word + ";");
            year(1, "third ^" + word + ";");
            sound("skin " + word + "s lines 1 thick 1;");
            sound("text x" + word + " oath gall lines 1;");
            sound("text x" + word.substring(1) + " oath gall lines 1;");
            sound("text " + word.substring(0, word.length() - 1) + "x oath gall lines 1;");
        }
        for (String word : new String[] {"wet", "deep", "bite", "thin", "cure", "library", "year"}) {
            sound("skin " + word + " lines 1 thick 1;hole " + word + " 0;shows wet and deep and bite and thin;");
        }

        says("no two (SKINS, TEXTS) are alike");
        library(3, TWO + "skin ^a lines 1 thick 1;");
        library(3, FULL + "text ^u oath gall lines 1;");
        library(3, TWO + "text ^b oath gall lines 1;");
        library(3, FULL + "skin ^t lines 1 thick 1;");
        sound(TWO + "skin aa lines 1 thick 1;");
        sound("skin b lines 1 thick 1;skin bb lines 1 thick 1;skin bbb lines 1 thick 1;");
        sound("skin a lines 1 thick 1;skin aa lines 1 thick 1;skin aaaaaaaa lines 1 thick 1;text aaaaaaa oath gall lines 1;");
        sound("skin z lines 1 thick 1;skin az lines 1 thick 1;skin za lines 1 thick 1;text zz oath gall lines 1;");
        library(3, "skin aaaaaaaa lines 1 thick 1;skin aaaaaaab lines 1 thick 1;skin ^aaaaaaaa lines 1 thick 1;");
        WornSkin x = Check.withLibrary(FULL);
        due("each library for itself", 0, Check.readLibrary(x, FULL));
    }

    private static void tests() {
        says("E: TEST { and TEST or or TEST }, from the left");
        due("(1 or 1) and 0", 0, shownBy("1 or 1 and 0"));
        due("(0 and 1) or 1", 1, shownBy("0 and 1 or 1"));
        library(1, "shows 1 and ^;");
        library(1, "shows 1 and ^or 1;");
        library(1, "shows ^and 1;");

        says("TEST: SUM, or SUM < SUM, or SUM = SUM");
        sound("shows 1<2;");
        sound("shows 1=2;");
        sound("shows 1<2 and 2<3 or 3=4;");
        library(1, "shows 1<2^<3;");
        library(1, "shows 1=2^=3;");
        library(1, "shows 1<2^=3;");
        library(1, "shows 1=2^<3;");
        library(1, "shows 1<^;");
        library(1, "shows ^<1;");
        library(1, "shows 1<^=1;");
        due("sums on both sides", 1, shownBy("1+1=3-1"));
        due("equal ones are not less", 0, shownBy("3<3"));
        due("one less is", 1, shownBy("2<3"));

        says("SUM: PRODUCT { + or - PRODUCT }; PRODUCT: PART { * PART }");
        due("from the left: 9 - 4 - 5", 0, shownBy("9-4-5"));
        due("from the left: 9 - 4 + 5", 1, shownBy("9-4+5=10"));
        due("2 + 3 * 4", 1, shownBy("2+3*4=14"));
        due("2 * 3 + 4", 1, shownBy("2*3+4=10"));
        library(1, "shows 1-^;");
        library(1, "shows 1-^-1;");
        library(1, "shows 1*^*1;");
        sound("shows " + times(496, "1-") + "1;");
    }

    private static void parts() {
        says("PART: a NUMBER, a fact, not PART, ( E )");
        sound("shows 0;");
        sound("shows wet+deep+bite+thin;");
        sound("shows not not 1;");
        sound("shows (1 or 2);");
        library(1, "shows ^;");
        library(1, "shows^");
        library(1, "shows ^name;");
        library(1, TWO + "shows ^a;");
        library(1, "shows ^oath;");
        library(1, "shows not^;");
        library(1, "shows not ^and 1;");
        library(1, "shows not ^*1;");
        library(1, "shows (^);");
        library(1, "shows (1^;");
        library(1, "shows (1 ^1);");
        library(1, "shows 1^);");
        library(1, "shows 1 ^not 1;");
        library(1, "shows 1 ^(1);");
        due("not takes its part alone: 1 + 1", 1, shownBy("not 0+1=2"));
        due("not takes its part alone: 1 * 0", 0, shownBy("not 0*0"));
    }

    private static void partsWithin() {
        says("no PART lies within 5 of not and ( )");
        sound("shows ((((1))));");
        library(5, "shows (((((^1)))));");
        sound("shows not not not not wet;");
        library(5, "shows not not not not not ^wet;");
        sound("shows not(not(1));");
        library(5, "shows not(not((^1)));");
        sound("shows 1+((((1))))*((((1))))<not not not not 1;");
        library(5, "shows 1+((((1))))*((((1<(^2)))));");
        library(5, "shows ((((1+2*3=4 and (^5)))));");

        says("not, or a PART, within 5 others");
        library(5, "shows not not not not not ^not 1;");
        library(5, "shows (((((^not 1)))));");
        library(5, "shows (((((^(1))))));");
        library(5, "shows (((((^thin)))));");
        sound("shows (((not 1)));");
        library(5, "shows ((((not ^1))));");
        library(1, "shows (((((^)))));");
        library(1, "shows not not not not not ^;");
        library(1, "shows (((((^name)))));");
        library(1, "shows (((((^12345)))));");
    }

    private static int shownBy(String law) {
        WornSkin x = Check.withLibrary("skin s lines 1 thick 9;text t charter gall lines 1;damp 4;shows " + law + ";");
        x.write(0, 0, 0);
        x.scrape(0);
        return x.read(0, 0) + 1;
    }

    /** How a TEXT that was scraped first of so many is read by a law; all are of the same KIND and INK, of 1 line. */
    private static int shownUnder(String text, int over, int damp, String law) {
        WornSkin x = Check.withLibrary("skin s lines 1 thick 30;text t " + text + " lines 1;text o charter soot lines 1;"
            + "damp " + damp + ";shows " + law + ";");
        x.write(0, 0, 0);
        x.scrape(0);
        for (int i = 0; i < over; i++) {
            x.write(1, 0, 0);
            x.scrape(0);
        }
        return x.text(0, 4);
    }

    private static void facts() {
        says("wet (the damp of the week; for a psalm 1 more)");
        due("a charter by 0", 1, shownUnder("charter soot", 0, 0, "wet=0"));
        due("a charter by 9", 1, shownUnder("charter soot", 0, 9, "wet=9"));
        due("a psalm by 0", 1, shownUnder("psalm soot", 0, 0, "wet=1"));
        due("a psalm by 9", 1, shownUnder("psalm soot", 0, 9, "wet=10"));
        due("a recipe by 9", 1, shownUnder("recipe soot", 0, 9, "wet=9"));
        due("an oath by 9", 1, shownUnder("oath soot", 0, 9, "wet=9"));

        says("deep (how many lie over it in the line, and 1; for a recipe 1 less)");
        due("uppermost", 1, shownUnder("charter soot", 0, 0, "deep=1"));
        due("under 8", 1, shownUnder("charter soot", 8, 0, "deep=9"));
        due("a psalm under 8", 1, shownUnder("psalm soot", 8, 0, "deep=9"));
        due("an oath under 8", 1, shownUnder("oath soot", 8, 0, "deep=9"));
        due("a recipe uppermost", 1, shownUnder("recipe soot", 0, 0, "deep=0"));
        due("a recipe under 8", 0, shownUnder("recipe soot", 8, 0, "deep=9"));
        due("a recipe under 7, none above being 7 deep and of gall", 1, shownUnder("recipe gall", 7, 0, "deep=7 and bite"));
        due("a recipe under 8, likewise", 1, shownUnder("recipe gall", 8, 0, "deep=8 and bite"));

        says("bite (1: gall)");
        due("gall", 1, shownUnder("oath gall", 0, 0, "bite=1"));
        due("soot", 1, shownUnder("oath soot", 0, 0, "bite=0"));

        says("thin (how thick the SKIN is)");
        due("1 less than 30", 1, shownUnder("charter soot", 0, 0, "thin=29"));
        due("9 less than 30", 1, shownUnder("charter soot", 8, 0, "thin=21 and deep=9"));
        WornSkin x = Check.withLibrary("skin a lines 1 thick 2;skin b lines 1 thick 9;text t charter soot lines 1;shows thin=1;");
        x.write(0, 0, 0);
        x.write(0, 1, 0);
        x.scrape(0);
        x.scrape(1);
        due("1 thick", 0, x.read(0, 0));
        due("8 thick", -1, x.read(1, 0));
    }

    private static void truths() {
        says("Of not, and, or, < and = comes 1 or 0; what is not 0 is so");
        due("not 0", 1, shownBy("(not 0)=1"));
        due("not 5", 1, shownBy("(not 5)=0"));
        due("not of one below 0", 1, shownBy("(not (0-1))=0"));
        due("5 and 7", 1, shownBy("(5 and 7)=1"));
        due("5 and 0", 1, shownBy("(5 and 0)=0"));
        due("0 and 5", 1, shownBy("(0 and 5)=0"));
        due("0 or 7", 1, shownBy("(0 or 7)=1"));
        due("7 or 0", 1, shownBy("(7 or 0)=1"));
        due("0 or 0", 1, shownBy("(0 or 0)=0"));
        due("2 < 7", 1, shownBy("(2<7)=1"));
        due("7 < 2", 1, shownBy("(7<2)=0"));
        due("7 = 7", 1, shownBy("(7=7)=1"));
        due("7 = 2", 1, shownBy("(7=2)=0"));
        due("one below 0 is so", 1, shownBy("0-1"));
        due("one below 0 is so for and", 1, shownBy("1 and 0-1"));
        due("0 is not", 0, shownBy("0"));

        says("ints wrap");
        due("2 ^ 31 is below 0", 1, shownBy("4096*4096*128<0"));
        due("2 ^ 31 - 1 is not", 1, shownBy("0<4096*4096*128-1"));
        due("2 ^ 31 - 1 and 1", 1, shownBy("(4096*4096*128-1)+1<0"));
        due("2 ^ 32 is 0", 0, shownBy("4096*4096*256"));
        due("2 ^ 32 + 1 is 1", 1, shownBy("4096*4096*256+1=1"));
        due("- 2 ^ 31 less 1", 1, shownBy("0<0-4096*4096*128-1"));
    }

    private static void untoldLaw() {
        says("Without shows: deep * 2 - bite < wet");
        String law = "shows deep*2-bite<wet;";
        String[] texts = {"charter soot", "charter gall", "psalm soot", "psalm gall", "recipe soot", "recipe gall",
            "oath soot", "oath gall"};
        // The least damp by which the uppermost one is read: 2 < wet, 1 < wet, and so on.
        int[] least = {3, 2, 2, 1, 1, 0, 3, 2};
        for (int i = 0; i < texts.length; i++) {
            for (String told : new String[] {"", law}) {
                WornSkin x = Check.withLibrary("skin s lines 1 thick 30;text t " + texts[i] + " lines 1;" + told);
                x.write(0, 0, 0);
                x.scrape(0);
                due(texts[i] + " " + told, least[i], x.need(0));
            }
        }
        WornSkin x = Check.withLibrary("skin s lines 1 thick 9;text t charter soot lines 1;shows 1;");
        due("a library without shows", 0, Check.readLibrary(x, "skin s lines 1 thick 9;text t charter soot lines 1;"));
        x.write(0, 0, 0);
        x.scrape(0);
        due("has this one", 3, x.need(0));
    }

    private static void placesOfFaults() {
        says("kind + 16 * the place (from 0) of a token, the end being one at the text's length");
        library(1, "^x");
        library(1, "   ^x");
        library(1, "skin^");
        library(1, "skin  \n ^");
        year(1, "week^");
        year(1, "week\n\n^");
        due("at the tape's end", 1 + 16 * 1000, Check.readLibrary(new WornSkin(), times(996, " ") + "hole"));
        due("its last sign", 1 + 16 * 999, Check.readLibrary(new WornSkin(), times(999, " ") + "x"));
        WornSkin x = new WornSkin();
        Check.readYear(x, "week;week;week;");
        due("what was read ahead is not there", 1 + 16 * 4, Check.readYear(x, "week"));
    }

    private static void firstAndLeast() {
        says("of the first token from the left that is wrong the least");
        library(4, "damp ^10;oops");
        library(5, TWO + "skin c lines 1 thick 1;^skin a lines 9 thick 99;oops");
        library(3, "damp 1;^damp 99;");
        library(2, "hole ^a 99;");
        library(4, "skin a lines ^0 thick 0;");
        library(4, TWELVE + " ^10;");
        library(5, TWELVE + " ^9;");
        library(1, TWELVE + " ^12345;");
        year(1, times(40, "week;") + "^oops;");
        year(1, times(40, "week;") + "^skin a lines 1 thick 1;");
        year(5, times(40, "week;") + "^scrape oops;");
        year(2, "write ^oops oops 9;");
        year(2, "write t ^oops 9;");
        year(4, "write t a ^9 oops");
    }

    private static void kindsOfFaults() {
        says("1 it is none, or can't stand there");
        library(1, "^?");
        library(1, "^abcdefghi");
        library(1, "^a");
        library(1, "^week;");
        year(1, "^skin a lines 1 thick 1;");
        library(1, "skin a lines 1 thick 1^");

        says("2 a NAME of no SKIN (behind hole, the second of write, behind scrape, third), of no TEXT (behind write) told");
        library(2, TWO + "hole ^x 0;");
        year(2, "write ^x a 0;");
        year(2, "write t ^x 0;");
        year(2, "write t ^t 0;");
        year(2, "write ^a a 0;");
        year(2, "scrape ^x;");
        year(2, "third ^x;");

        says("3 a NAME told already; a hole told so; damp, shows a second time");
        library(3, TWO + "skin ^b lines 1 thick 1;");
        library(3, TWO + "text ^a oath gall lines 1;");
        library(3, TWO + "hole b 3;hole b ^3;");
        library(3, "damp 0;^damp");
        library(3, "shows 0;^shows");

        says("4 a NUMBER that is not as told (a hole's, too, beyond the SKIN's lines)");
        library(4, "skin a lines ^7 thick 1;");
        library(4, "skin a lines 6 thick ^31;");
        library(4, "text t oath soot lines ^7;");
        library(4, TWO + "hole a ^2;");
        library(4, "damp 9 ^10;");
        year(4, "write t a ^6;");

        says("5 one too many: the words skin of a fourth, text of a seventh, a thirteenth NUMBER of damp,"
            + " the first word of a 41st line of a YEAR");
        library(5, TWO + "skin c lines 1 thick 1;^skin");
        StringBuilder six = new StringBuilder();
        for (char name = 'p'; name < 'v'; name++) {
            six.append("text ").append(name).append(" oath gall lines 1;");
        }
        library(5, six + "^text");
        library(5, TWELVE + " ^0");
        for (String first : new String[] {"write", "scrape", "third", "week"}) {
            year(5, times(40, "week;") + "^" + first);
        }
    }

    /** An object in which all that can be is not as at first; MARKS 0 to 3 are laid. */
    private static WornSkin livedIn() {
        WornSkin x = Check.withLibrary(FULL + "damp 3 4;");
        x.write(0, 1, 0);
        x.scrape(1);
        x.write(1, 0, 1);
        x.week();
        x.see(0, 1, 2, true);
        Check.readYear(x, "write t b 2;week;scrape a;");
        for (int mark = 0; mark < 4; mark++) {
            x.mark(mark, false);
        }
        return x;
    }

    private static void newLibrary() {
        says("Without a FAULT a LIBRARY is the LIBRARY from then on: week 0, nothing written, SKINS as thick as told,"
            + " no YEAR, nothing SEEN, nothing can be undone, no MARK is there");
        for (String told : new String[] {FULL + "damp 3 4;", TWO, ""}) {
            WornSkin x = livedIn();
            due("a library", 0, Check.readLibrary(x, told));
            WornSkin fresh = Check.withLibrary(told);
            CHECK.duePicture("as a new one", Check.picture(fresh), x);
            due("week 0", 0, x.count(2));
            due("nothing written", 0, x.count(6));
            due("thick as told", told.isEmpty() ? 0 : 33, x.count(4));
            due("no year", 0, x.count(8));
            due("nothing seen", 0, x.count(9));
            due("nothing can be undone", 0, x.count(10));
            due("nothing can be undone", false, x.undo());
            for (int mark = 0; mark < 4; mark++) {
                due("no mark is there", false, x.mark(mark, true));
            }
            due("a mark can be laid anew", true, x.mark(2, false));
            due("that one alone", false, x.mark(1, true));
            due("and be gone back to", true, x.mark(2, true));
        }
        nothingUnder();
    }

    /** What lay on a line of an old library is not under what is written on the new one's. */
    private static void nothingUnder() {
        String old = "skin a lines 6 thick 9;text k oath gall lines 1;text l oath gall lines 1;text m oath gall lines 1;"
            + "text n oath gall lines 1;text o oath gall lines 1;text p oath gall lines 6;";
        WornSkin x = Check.withLibrary(old);
        x.write(5, 0, 0);
        x.scrape(0);
        x.write(5, 0, 0);
        due("a library", 0, Check.readLibrary(x, old));
        due("written", true, x.write(0, 0, 0));
        due("the lowest one", 0, x.layer(0, 0, 0));
        due("it lies open", 0, x.read(0, 0));
        due("one layer", 1, x.layers(0, 0));
        due("scraped", 6, x.scrape(0));
        due("written", true, x.write(2, 0, 0));
        due("the second one", 2, x.layer(0, 0, 1));
        due("as the line by itself", true, x.write(0, 0, 1) && x.same() == 0);
        due("the year from the beginning", 0, Check.readYear(x, "write p a 0;scrape a;write p a 0;"));
        due("is judged", 1, x.judged(2));
        due("another year", 0, Check.readYear(x, "write k a 0;"));
        due("is judged with nothing under it", 1, x.judged(2));
    }

    private static void allStays() {
        says("The TAPE is read as a LIBRARY: 0, or its FAULT (all stays then).");
        String[] wrong = {"skin x lines 1 thick 1;oops", "skin x lines 1 thick 1;hole y 0;", "damp 1;text x oath gall lines 1;damp 2;",
            "damp 1;skin x lines 7 thick 1;", "damp 9;shows (((((1)))));", "shows 1;skin x lines 1 thick 1"};
        for (int i = 0; i < wrong.length; i++) {
            WornSkin x = livedIn();
            String ahead = Check.picture(x);
            int fault = Check.readLibrary(x, wrong[i]);
            due("the kind in " + wrong[i], i < 5 ? i + 1 : 1, fault % 16);
            CHECK.duePicture("all stays", ahead, x);
            due("its names, too", 0, Check.readYear(x, "write t b 0;write u a 1;"));
            due("the damp of the next week", 5, x.week() + x.count(3));
            due("the law", 1, x.psalter(0) > 0 ? 1 : 0);
            due("the marks", true, x.mark(3, true));
            CHECK.duePicture("a mark is as it was laid", ahead.replace(" 1 4 0 |", " 1 0 0 |"), x);
        }

        says("The TAPE is read as a YEAR, likewise.");
        String[] wrongYears = {"week;oops", "week;scrape t;", null, "week;write t b 6;", times(41, "week;"), "week"};
        for (int i = 0; i < wrongYears.length; i++) {
            if (wrongYears[i] != null) {
                WornSkin x = livedIn();
                String ahead = Check.picture(x);
                due("the kind in " + wrongYears[i], i < 5 ? i + 1 : 1, Check.readYear(x, wrongYears[i]) % 16);
                CHECK.duePicture("all stays", ahead, x);
                due("judged, too", 2, x.judged(0));
            }
        }
    }

    private static void newYear() {
        says("A YEAR is the YEAR.");
        WornSkin x = livedIn();
        due("three lines", 3, x.count(8));
        due("a shorter one", 0, Check.readYear(x, "third b;"));
        due("takes its place", 1, x.count(8));
        due("takes its place", 0, x.judged(0));
        due("one of none", 0, Check.readYear(x, ""));
        due("takes its place", 0, x.count(8));
        due("takes its place", -1, x.judged(0));
        due("nothing is done by it", 3, x.count(6));
        due("it is nothing to undo", 4, x.count(10));
        due("what is undone is not the year", true, x.undo());
        due("what is undone is not the year", 0, x.count(8));
    }
}
