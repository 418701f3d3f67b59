/** The FAULTS of a LIBRARY and of a YEAR (promises 3 and 4), by kind and place; ^ stands ahead of the token that is wrong. */
public final class FaultTest {
    private static final String THREE =
        "skin a lines 2 thick 3;skin b lines 6 thick 30;skin c lines 1 thick 1;";
    private static final Check CHECK = new Check();

    public static void main(String[] args) {
        tokens();
        leftovers();
        statements();
        names();
        numbers();
        tooMany();
        laws();
        nesting();
        years();
        CHECK.end("FaultTest");
    }

    private static void library(int kind, String marked) {
        CHECK.dueLibrary(kind, marked);
    }

    private static void year(int kind, String marked) {
        CHECK.dueYear(kind, THREE + "text t oath gall lines 2;text u psalm soot lines 1;", marked);
    }

    private static void tokens() {
        library(0, "");
        library(0, " \n ");
        library(0, "skin a lines 2 thick 3;");
        library(0, "skin\na\nlines 2thick 3 ; ");
        library(0, "skin a lines2thick3;");
        library(0, "skin abcdefgh lines 0002 thick 0030;");
        library(1, "skin ^abcdefghi lines 2 thick 3;");
        library(1, "skin a lines ^00002 thick 3;");
        library(1, "skin a lines ^12345thick 3;");
        library(1, "^skinskinskin a");
        library(1, "skin ^A lines 2 thick 3;");
        library(1, "^&");
        library(1, "skin a^, lines");
        library(1, "skin a lines 2 thick 3^");
        library(1, "skin a lines 2 thick 3  ^");
        library(1, "skin^");
        library(1, "skin a lines 2 thick 3\n \n^");
    }

    /** What an earlier, longer text left behind the end is no part of a token. */
    private static void leftovers() {
        WornSkin x = new WornSkin();
        CHECK.due("a week", 0, Check.readYear(x, "week;"));
        CHECK.due("wee of week", 1, Check.readYear(x, "wee"));
        CHECK.due("a number too high", 4 + 16 * 5, Check.readLibrary(x, "damp 55;"));
        CHECK.due("its first digit", 1 + 16 * 6, Check.readLibrary(x, "damp 5"));
        CHECK.due("a sign is missing", 1 + 16 * 5, Check.readYear(x, "week "));
        CHECK.due("a tape full of letters", 1, Check.readLibrary(x, "a".repeat(1000)));
        CHECK.due("a tape full of digits", 1, Check.readLibrary(x, "1".repeat(1000)));
        CHECK.due("a tape full of blanks", 0, Check.readLibrary(x, " ".repeat(1000)));
        CHECK.due("a fault at the very end", 1 + 16 * 1000, Check.readLibrary(x, " ".repeat(996) + "skin"));
        CHECK.due("the longest law", 0, Check.readLibrary(x, "shows " + "1+".repeat(496) + "1;"));
        CHECK.due("a longer one is cut", 1 + 16 * 1000, Check.readLibrary(x, "shows " + "1+".repeat(497) + "1;"));
    }

    private static void statements() {
        library(1, "^;");
        library(1, "^write a a 1;");
        library(1, "^1");
        library(1, "^lines 2;");
        library(1, "skin a ^thick 3 lines 2;");
        library(1, "skin a lines ^thick 3;");
        library(1, "skin a lines 2 ^3;");
        library(1, "skin ^lines 2 thick 3;");
        library(1, "skin ^7 lines 2 thick 3;");
        library(1, "skin a lines 2 thick 3 ^skin b lines 2 thick 3;");
        library(1, "text a ^cure gall lines 2;");
        library(1, "text a ^gall psalm lines 2;");
        library(1, "text a charter ^ink lines 2;");
        library(1, "text a charter soot ^2;");
        library(1, "damp ^;");
        library(1, "damp ^");
        library(1, "damp ^x;");
        library(1, "damp 1 2 ^x;");
        library(1, "damp 1^-2;");
        library(0, "damp 1 2 3;");
        library(1, "hole ^1;");
        library(1, THREE + "hole a ^;");
        library(1, THREE + "hole a 1 ^1;");
        library(1, "shows ^;");
    }

    private static void names() {
        for (String word : new String[] {"skin", "lines", "thick", "hole", "text", "damp", "shows", "write", "scrape",
            "third", "week", "gall", "soot", "charter", "psalm", "recipe", "oath", "not", "and", "or"}) {
            library(1, "skin ^" + word + " lines 2 thick 3;");
            library(1, "text ^" + word + " oath gall lines 2;");
            library(1, "hole ^" + word + " 0;");
            year(1, "scrape ^" + word + ";");
            year(1, "write ^" + word + " a 0;");
        }
        for (String word : new String[] {"wet", "deep", "bite", "thin", "cure", "skins", "n", "nota", "z", "az"}) {
            library(0, "skin " + word + " lines 2 thick 3;");
        }
        library(3, "skin a lines 2 thick 3;skin ^a lines 2 thick 3;");
        library(3, "text a oath gall lines 2;text ^a oath gall lines 2;");
        library(3, "skin a lines 2 thick 3;text ^a oath gall lines 2;");
        library(3, "text a oath gall lines 2;skin ^a lines 2 thick 3;");
        library(2, "hole ^a 0;skin a lines 2 thick 3;");
        library(2, "text t oath gall lines 2;hole ^t 0;");
        library(2, "skin ab lines 2 thick 3;hole ^a 0;");
        library(2, "skin a lines 2 thick 3;hole ^aa 0;");
        library(0, THREE + "hole a 0;hole a 1;hole b 0;");
        library(3, THREE + "hole a 0;hole a 1;hole a ^0;");
        library(3, "damp 1;^damp 1;");
        library(3, "shows 1;^shows 1;");
        library(3, "shows wet;damp 0;text t oath gall lines 1;^shows 1;");
        library(3, "damp 1;^damp;");
    }

    private static void numbers() {
        library(4, "skin a lines ^0 thick 1;");
        library(4, "skin a lines ^7 thick 1;");
        library(0, "skin a lines 6 thick 1;");
        library(4, "skin a lines 6 thick ^0;");
        library(4, "skin a lines 6 thick ^31;");
        library(0, "skin a lines 1 thick 30;");
        library(4, "text a oath gall lines ^0;");
        library(4, "text a oath gall lines ^7;");
        library(0, "text a oath gall lines 6;");
        library(4, THREE + "hole a ^2;");
        library(4, THREE + "hole b ^6;");
        library(4, THREE + "hole c ^1;");
        library(0, THREE + "hole b 5;hole c 0;");
        library(4, "damp ^10;");
        library(4, "damp 1 ^9999;");
        library(0, "damp 0 9;");
        library(0, "shows 9999;");
    }

    private static void tooMany() {
        library(0, THREE);
        library(5, THREE + "^skin d lines 1 thick 1;");
        library(5, THREE + "^skin a");
        String texts = "";
        for (int i = 0; i < 6; i++) {
            texts += "text t" + (char) ('a' + i) + " oath gall lines 1;";
        }
        library(0, texts);
        library(5, texts + "^text z oath gall lines 1;");
        library(0, "damp 0 1 2 3 4 5 6 7 8 9 0 1;");
        library(5, "damp 0 1 2 3 4 5 6 7 8 9 0 1 ^2;");
        library(5, "damp 0 1 2 3 4 5 6 7 8 9 0 1 ^0;");
        library(4, "damp 0 1 2 3 4 5 6 7 8 9 0 1 ^10;");
        library(1, "damp 0 1 2 3 4 5 6 7 8 9 0 1 ^x;");
        library(1, "damp 0 1 2 3 4 5 6 7 8 9 0 1 ^12345;");
    }

    private static void laws() {
        library(0, "shows wet and deep or bite and not thin;");
        library(0, "shows 1+2-3*4<5;");
        library(0, "shows (1<2)=(3=4);");
        library(0, "shows 1and 2or 3;");
        library(1, "shows 1 < 2 ^< 3;");
        library(1, "shows 1 = 2 ^< 3;");
        library(1, "shows 1 ^2;");
        library(1, "shows 1 + ^;");
        library(1, "shows ^-1;");
        library(1, "shows ^+1;");
        library(1, "shows ^and 1;");
        library(1, "shows 1 and ^or 1;");
        library(1, "shows not ^;");
        library(1, "shows (1^;");
        library(1, "shows 1^);");
        library(1, "shows (^);");
        library(1, "shows ^a;");
        library(1, "shows ^lines;");
        library(1, "shows 1 ^not 1;");
        library(1, "shows 1 + not ^< 2;");
        library(0, "shows 1 + not 1 * not 2;");
        library(1, "shows 1^");
        library(1, "shows 1 * ^");
        library(1, "shows 1 and ^deeper;");
        library(1, "shows ^12345;");
    }

    private static void nesting() {
        library(0, "shows ((((1))));");
        library(5, "shows (((((^1)))));");
        library(5, "shows (((((^(1))))));");
        library(0, "shows not not not not 1;");
        library(5, "shows not not not not not ^1;");
        library(5, "shows not not not not not ^not 1;");
        library(5, "shows not(not(not ^wet));");
        library(0, "shows not(not(1 and wet<2));");
        library(5, "shows not(not(1 and wet<not ^2));");
        library(1, "shows (((((^)))));");
        library(1, "shows (((((^;");
        library(1, "shows (((((^<1;");
        library(1, "shows (((((^and;");
        library(1, "shows (((((^name;");
        library(5, "shows (((((^deep;");
        library(0, "shows ((((1))))+((((1))));");
        library(5, "shows ((((1))))+((((not ^1))));");
    }

    private static void years() {
        year(0, "");
        year(0, "week;scrape a;third b;write t c 5;write u a 0;");
        year(1, "^skin a lines 2 thick 3;");
        year(1, "^a");
        year(1, "week ^");
        year(1, "week ^a;");
        year(1, "^weeka;");
        year(1, "write t a^;");
        year(1, "write t ^1;");
        year(1, "write t a ^b;");
        year(2, "write ^a t 0;");
        year(2, "write t ^u 0;");
        year(2, "write ^x a 0;");
        year(2, "scrape ^t;");
        year(2, "third ^x;");
        year(4, "write t a ^6;");
        year(0, "write t a 5;");
        year(1, "scrape a ^b;");
        String week = "";
        for (int i = 0; i < 40; i++) {
            week += "week;";
        }
        year(0, week);
        year(5, week + "^week;");
        year(5, week + " ^write x");
        year(1, week + "^weeks;");
        year(1, week + "^;");
        year(0, week + "\n");
        CHECK.due("no skin is told", 2 + 16 * 7, Check.readYear(new WornSkin(), "scrape a;"));
        CHECK.due("weeks need no library", 0, Check.readYear(new WornSkin(), "week;week;"));
    }
}
