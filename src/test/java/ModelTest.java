import java.util.NoSuchElementException;
import java.util.Random;

/** Random runs of calls, every answer held against PlainSkin's. */
public final class ModelTest {
    private static final int RUNS = 1500;
    private static final int CALLS = 300;
    private static final String[] KINDS = {"charter", "psalm", "recipe", "oath"};
    private static final Check CHECK = new Check();

    private final Random random;
    private final int run;
    private WornSkin skin = new WornSkin();
    private PlainSkin plain = new PlainSkin();

    private ModelTest(int run) {
        this.run = run;
        this.random = new Random(run * 7919L + 13);
    }

    public static void main(String[] args) {
        for (int run = 0; run < RUNS; run++) {
            new ModelTest(run).go();
        }
        CHECK.end("ModelTest");
    }

    private void go() {
        if (random.nextInt(20) != 0) {
            tell(library(), true);
        }
        for (int i = 0; i < CALLS; i++) {
            oneCall();
        }
    }

    private void due(String call, long want, long got) {
        CHECK.due("run " + run + " " + call, want, got);
    }

    private void due(String call, boolean want, boolean got) {
        CHECK.due("run " + run + " " + call, want, got);
    }

    private void tell(String text, boolean library) {
        for (int at = 0; at < text.length(); at += 24) {
            long a = Check.eight(text, at);
            long b = Check.eight(text, at + 8);
            long c = Check.eight(text, at + 16);
            due("feed", plain.feed(a, b, c), skin.feed(a, b, c));
        }
        if (library) {
            due("library " + text, plain.library(), skin.library());
        } else {
            due("year " + text, plain.year(), skin.year());
        }
    }

    private int below(int m) {
        return random.nextInt(m);
    }

    private String library() {
        StringBuilder text = new StringBuilder();
        int skins = below(4);
        for (int s = 0; s < skins; s++) {
            int lines = 1 + below(6);
            text.append("skin s").append((char) ('a' + s)).append(" lines ").append(lines);
            text.append(" thick ").append(1 + below(30)).append(";");
            if (below(2) == 0) {
                text.append("hole s").append((char) ('a' + s)).append(" ").append(below(lines)).append(";");
            }
        }
        int texts = below(7);
        for (int t = 0; t < texts; t++) {
            text.append("text t").append((char) ('a' + t)).append(" ").append(KINDS[below(4)]);
            text.append(below(2) == 0 ? " gall" : " soot").append(" lines ").append(1 + below(below(6) + 1)).append(";");
        }
        if (below(8) != 0) {
            text.append("damp");
            for (int i = 1 + below(12); i > 0; i--) {
                text.append(" ").append(below(10));
            }
            text.append(";");
        }
        if (below(3) != 0) {
            text.append("shows ").append(law(0)).append(";");
        }
        return maybeSpoiled(text.toString());
    }

    private String law(int around) {
        StringBuilder text = new StringBuilder(test(around));
        for (int i = below(3); i > 0; i--) {
            text.append(below(2) == 0 ? " and " : " or ").append(test(around));
        }
        return text.toString();
    }

    private String test(int around) {
        int kind = below(4);
        return kind == 0 ? sum(around) : kind == 1 ? sum(around) + "=" + sum(around) : sum(around) + "<" + sum(around);
    }

    private String sum(int around) {
        StringBuilder text = new StringBuilder(part(around));
        for (int i = below(3); i > 0; i--) {
            text.append("+-*".charAt(below(3))).append(part(around));
        }
        return text.toString();
    }

    private String part(int around) {
        int kind = below(12);
        if (kind == 0 && around < 5) {
            return " not " + part(around + 1);
        }
        if (kind <= 2 && around < 5) {
            return "(" + law(around + 1) + ")";
        }
        if (kind < 6) {
            return "" + (below(10) == 0 ? below(10000) : below(12));
        }
        return new String[] {" wet ", " deep ", " bite ", " thin "}[below(4)];
    }

    private String year() {
        StringBuilder text = new StringBuilder();
        for (int i = below(8) == 0 ? 35 + below(10) : below(30); i > 0; i--) {
            int names = Math.max(1, plain.count(0)) + (below(20) == 0 ? 1 : 0);
            String skinName = "s" + (char) ('a' + below(names));
            switch (below(5)) {
                case 0:
                    text.append("scrape ").append(skinName);
                    break;
                case 1:
                    text.append("third ").append(skinName);
                    break;
                case 2:
                    text.append("week");
                    break;
                default:
                    text.append("write t").append((char) ('a' + below(Math.max(1, plain.count(1))))).append(" ");
                    text.append(skinName).append(" ").append(below(below(10) == 0 ? 7 : 5));
                    break;
            }
            text.append(";");
        }
        return maybeSpoiled(text.toString());
    }

    private String maybeSpoiled(String text) {
        StringBuilder spoiled = new StringBuilder(text);
        for (int i = below(3) == 0 ? 1 + below(2) : 0; i > 0 && spoiled.length() > 0; i--) {
            int at = below(spoiled.length());
            String signs = " \n;()<=+-*0123456789abcdefghsty&^Z";
            switch (below(3)) {
                case 0:
                    spoiled.deleteCharAt(at);
                    break;
                case 1:
                    spoiled.insert(at, signs.charAt(below(signs.length())));
                    break;
                default:
                    spoiled.setCharAt(at, signs.charAt(below(signs.length())));
                    break;
            }
        }
        return spoiled.toString();
    }

    private int aSkin() {
        return below(12) == 0 ? below(6) - 1 : below(Math.max(1, plain.count(0)));
    }

    private int aText() {
        return below(12) == 0 ? below(9) - 2 : below(Math.max(1, plain.count(1)));
    }

    private int aLine() {
        return below(12) == 0 ? below(9) - 1 : below(6);
    }

    private void oneCall() {
        int s = aSkin();
        int t = aText();
        int l = aLine();
        switch (below(22)) {
            case 0: case 1: case 2: case 3:
                due("write", plain.write(t, s, l), skin.write(t, s, l));
                break;
            case 4:
                due("scrape", plain.scrape(s), skin.scrape(s));
                break;
            case 5:
                due("third", plain.third(s), skin.third(s));
                break;
            case 6: case 7:
                due("week", plain.week(), skin.week());
                break;
            case 8:
                for (int i = below(12) == 0 ? 20 : 1 + below(2); i > 0; i--) {
                    due("undo", plain.undo(), skin.undo());
                }
                break;
            case 9:
                markOrTell();
                break;
            case 10:
                int deep = below(12) == 0 ? below(12) - 1 : 1 + below(4);
                int damp = below(12) - 1;
                boolean shows = below(2) == 0;
                if (below(3) == 0) {
                    due("see", plain.see(s, deep, damp, shows), skin.see(s, deep, damp, shows));
                }
                break;
            case 11: case 12: case 13:
                askState(s, t, l);
                break;
            case 14: case 15:
                askLater(s, t, l);
                break;
            case 16: case 17: case 18:
                askPlaces(s, t);
                break;
            case 19: case 20:
                askLayers(s, t);
                break;
            default:
                askOdds(s, t);
                break;
        }
    }

    private void markOrTell() {
        int kind = below(12);
        if (kind < 5) {
            int mark = below(6) - 1;
            boolean back = below(2) == 0;
            due("mark", plain.mark(mark, back), skin.mark(mark, back));
        } else if (kind < 10) {
            tell(year(), false);
        } else if (kind == 10) {
            tell(library(), true);
        } else {
            long a = random.nextLong();
            long b = random.nextLong();
            long c = random.nextLong();
            due("feed", plain.feed(a, b, c), skin.feed(a, b, c));
        }
    }

    private void askState(int s, int t, int l) {
        int what = below(8) - 1;
        int i = below(11) - 1;
        int counted = below(14) - 1;
        due("skin", plain.skin(s, what), skin.skin(s, what));
        due("text", plain.text(t, what), skin.text(t, what));
        due("layers", plain.layers(s, l), skin.layers(s, l));
        due("layer", plain.layer(s, l, i), skin.layer(s, l, i));
        due("read", plain.read(s, l), skin.read(s, l));
        due("count " + counted, plain.count(counted), skin.count(counted));
    }

    private void askLater(int s, int t, int l) {
        int weeks = below(44) - 2;
        int what = below(5) - 1;
        due("later", plain.later(s, l, weeks), skin.later(s, l, weeks));
        due("when", plain.when(t), skin.when(t));
        due("need", plain.need(t), skin.need(t));
        due("lost", plain.lost(), skin.lost());
        due("psalter", plain.psalter(t), skin.psalter(t));
        due("judged " + what, plain.judged(what), skin.judged(what));
    }

    private void askPlaces(int s, int t) {
        due("place", plain.place(t, s), skin.place(t, s));
        due("cost", plain.cost(t, s), skin.cost(t, s));
        due("bears", plain.bears(s, t), skin.bears(s, t));
        if (below(12) == 0) {
            for (int text = -2; text < 7; text++) {
                due("lay " + text, plain.lay(text), skin.lay(text));
            }
        }
    }

    private void askLayers(int s, int t) {
        due("over", plain.over(t), skin.over(t));
        due("deepest", plain.deepest(s), skin.deepest(s));
        due("bare", plain.bare(s), skin.bare(s));
        due("same", plain.same(), skin.same());
        due("giveup", plain.giveup(), skin.giveup());
        due("who", plain.who(), skin.who());
        due("ask", plain.ask(s), skin.ask(s));
    }

    private void askOdds(int s, int t) {
        int weeks = below(8);
        int odds = below(13) - 1;
        due("chance", plain.chance(t, weeks, odds), skin.chance(t, weeks, odds));
        int lose = below(12) - 1;
        int reads = below(3) == 0 ? 0 : below(11);
        int waits = below(3) == 0 ? 0 : below(11);
        int what = below(6) - 2;
        int want;
        try {
            want = plain.rests(lose, reads, waits, what);
        } catch (NoSuchElementException none) {
            want = -100;
        }
        due("rests", want, Check.rests(skin, lose, reads, waits, what));
        int seed = below(20) == 0 ? -1 + below(2) * 10001 : below(10000);
        int span = below(20) == 0 ? below(2) * 100 : 1 + below(99);
        int asked = below(12) == 0 ? 3 : below(3);
        due("years", plain.years(seed, span, asked), skin.years(seed, span, asked));
    }
}
