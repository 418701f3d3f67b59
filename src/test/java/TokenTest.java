import java.util.ArrayList;
import java.util.Arrays;
import java.util.List;
import java.util.Random;

/**
 * Libraries and years that are sound but for a few tokens that were left out, told twice, changed or put elsewhere:
 * the FAULT, and what stands behind it, held against PlainSkin's.
 */
public final class TokenTest {
    private static final int RUNS = 30000;
    private static final int LEAST_OF_A_KIND = 150;
    private static final String[] KINDS = {"charter", "psalm", "recipe", "oath"};
    private static final String[] STRAY = {"skin", "lines", "thick", "hole", "text", "damp", "shows", "write", "scrape",
        "third", "week", "gall", "soot", "charter", "psalm", "recipe", "oath", "not", "and", "or", "wet", "deep", "bite",
        "thin", "a", "b", "c", "t", "u", "v", "abcdefgh", "abcdefghi", "0", "1", "5", "6", "7", "9", "10", "30", "31",
        "0000", "00001", "9999", "(", ")", "<", "=", "+", "-", "*", ";", "?", "A", "_", "."};
    private static final String SOUND = "skin a lines 6 thick 9;skin b lines 2 thick 30;text t oath gall lines 2;"
        + "text u psalm soot lines 1;damp 4;";
    private static final Check CHECK = new Check();
    private static final int[] FOUND = new int[6];

    private final Random random;
    private final WornSkin skin = new WornSkin();
    private final PlainSkin plain = new PlainSkin();

    private TokenTest(long seed) {
        random = new Random(seed);
    }

    public static void main(String[] args) {
        for (int run = 0; run < RUNS; run++) {
            new TokenTest(run * 6151L + 5).go();
        }
        System.out.println("sound and by kinds of FAULTS: " + Arrays.toString(FOUND));
        for (int kind = 0; kind < FOUND.length; kind++) {
            CHECK.due("enough of kind " + kind + ": " + FOUND[kind], true, FOUND[kind] >= LEAST_OF_A_KIND);
        }
        CHECK.end("TokenTest");
    }

    private void go() {
        tell(spoiled(library()), true);
        if (plain.count(0) == 0 || plain.count(1) == 0) {
            tell(SOUND, true);
        }
        tell(spoiled(year()), false);
        for (int what = 0; what < 12; what++) {
            CHECK.due("count " + what, plain.count(what), skin.count(what));
        }
        for (int what = 0; what < 3; what++) {
            CHECK.due("judged " + what, plain.judged(what), skin.judged(what));
        }
    }

    private void tell(String signs, boolean library) {
        for (int at = 0; at < signs.length(); at += 24) {
            long a = Check.eight(signs, at);
            long b = Check.eight(signs, at + 8);
            long c = Check.eight(signs, at + 16);
            CHECK.due("feed", plain.feed(a, b, c), skin.feed(a, b, c));
        }
        int want = library ? plain.library() : plain.year();
        int got = library ? skin.library() : skin.year();
        CHECK.due((library ? "library " : "year ") + signs, want, got);
        FOUND[want % 16]++;
    }

    private int below(int m) {
        return random.nextInt(m);
    }

    private static void add(List<String> tokens, String text) {
        tokens.addAll(Arrays.asList(text.split(" ")));
    }

    private List<String> library() {
        List<String> tokens = new ArrayList<>();
        int skins = 0;
        int texts = 0;
        boolean[] told = new boolean[2];
        for (int i = 1 + below(14); i > 0; i--) {
            int kind = below(8);
            boolean again = kind >= 6 && told[kind - 6] || kind <= 1 && skins >= 3 || kind == 2 && skins == 0;
            if (again && below(8) != 0) {
                continue;
            }
            switch (kind) {
                case 0: case 1:
                    add(tokens, "skin " + (char) ('a' + skins) + " lines " + (1 + below(6)) + " thick " + (1 + below(30)) + " ;");
                    skins++;
                    break;
                case 2:
                    add(tokens, "hole " + (char) ('a' + below(Math.max(1, skins))) + " " + below(2) + " ;");
                    break;
                case 3: case 4: case 5:
                    add(tokens, "text " + (char) ('t' + texts) + " " + KINDS[below(4)] + (below(2) == 0 ? " gall" : " soot")
                        + " lines " + (1 + below(3)) + " ;");
                    texts++;
                    break;
                case 6:
                    told[0] = true;
                    add(tokens, "damp" + " 3".repeat(below(4) == 0 ? 10 + below(4) : 1 + below(3)) + " ;");
                    break;
                default:
                    told[1] = true;
                    add(tokens, "shows");
                    law(tokens, 0);
                    add(tokens, ";");
                    break;
            }
        }
        return tokens;
    }

    private void law(List<String> tokens, int around) {
        part(tokens, around);
        for (int i = below(3); i > 0; i--) {
            tokens.add(new String[] {"and", "or", "<", "=", "+", "-", "*"}[below(7)]);
            part(tokens, around);
        }
    }

    private void part(List<String> tokens, int around) {
        int kind = below(5);
        if (kind == 0 && around < 7) {
            tokens.add("not");
            part(tokens, around + 1);
        } else if (kind == 1 && around < 7) {
            tokens.add("(");
            law(tokens, around + 1);
            tokens.add(")");
        } else {
            tokens.add(new String[] {"wet", "deep", "bite", "thin", "2", "9999"}[below(6)]);
        }
    }

    private List<String> year() {
        List<String> tokens = new ArrayList<>();
        for (int i = below(6) == 0 ? 38 + below(5) : below(12); i > 0; i--) {
            String on = String.valueOf((char) ('a' + below(Math.max(1, plain.count(0)))));
            switch (below(i > 14 ? 12 : 4)) {
                case 0:
                    add(tokens, "write " + (char) ('t' + below(Math.max(1, plain.count(1)))) + " " + on + " " + below(6) + " ;");
                    break;
                case 1:
                    add(tokens, "scrape " + on + " ;");
                    break;
                case 2:
                    add(tokens, "third " + on + " ;");
                    break;
                default:
                    add(tokens, "week ;");
                    break;
            }
        }
        return tokens;
    }

    /** Leaves out, doubles, changes or swaps up to two tokens, and puts blanks where one likes. */
    private String spoiled(List<String> tokens) {
        for (int i = below(3); i > 0 && !tokens.isEmpty(); i--) {
            int at = below(tokens.size());
            String stray = STRAY[below(STRAY.length)];
            switch (below(5)) {
                case 0:
                    tokens.remove(at);
                    break;
                case 1:
                    tokens.add(at, tokens.get(at));
                    break;
                case 2:
                    tokens.set(at, stray);
                    break;
                case 3:
                    tokens.add(at, stray);
                    break;
                default:
                    tokens.set(at, tokens.set(below(tokens.size()), tokens.get(at)));
                    break;
            }
        }
        StringBuilder signs = new StringBuilder();
        for (String token : tokens) {
            signs.append(blanksAhead(signs, token)).append(token);
        }
        return signs.append(below(3) == 0 ? " " : "").toString();
    }

    /** Mostly as few as keep two tokens apart; now and then none at all, so that two of them run together. */
    private String blanksAhead(StringBuilder signs, String token) {
        if (below(12) == 0) {
            return below(2) == 0 ? "\n" : " \n ";
        }
        char last = signs.length() == 0 ? ';' : signs.charAt(signs.length() - 1);
        char first = token.charAt(0);
        boolean letters = Character.isLetter(last) && Character.isLetter(first);
        boolean digits = Character.isDigit(last) && Character.isDigit(first);
        return (letters || digits) && below(200) != 0 ? " " : "";
    }
}
