import java.util.ArrayList;
import java.util.Arrays;
import java.util.List;
import java.util.NoSuchElementException;

/**
 * The document once more, as plainly as can be: lists, trees, all rows tried one by one.
 * ModelTest holds WornSkin against it; it is slow and makes as many objects as it likes.
 */
final class PlainSkin {
    private static final List<String> KEPT = Arrays.asList("skin", "lines", "thick", "hole", "text", "damp", "shows",
        "write", "scrape", "third", "week", "gall", "soot", "charter", "psalm", "recipe", "oath", "not", "and", "or");
    private static final List<String> KINDS = Arrays.asList("charter", "psalm", "recipe", "oath");
    private static final List<String> FACTS = Arrays.asList("wet", "deep", "bite", "thin");

    static final class Fault extends RuntimeException {
        private static final long serialVersionUID = 1;
        final int number;

        Fault(int kind, int place) {
            number = kind + 16 * place;
        }
    }

    static final class Token {
        String text;
        int place;

        boolean is(String other) {
            return text.equals(other);
        }

        boolean word() {
            return text.matches("[a-z]{1,8}");
        }

        boolean number() {
            return text.matches("[0-9]{1,4}");
        }
    }

    static final class Skin {
        String name;
        int lines;
        int thick;
        List<Integer> holes = new ArrayList<>();
    }

    static final class Text {
        String name;
        int kind;
        boolean gall;
        int lines;
    }

    /** A tree of an E: a number or fact in word, or a joint of two, or not of one. */
    static final class Tree {
        String word;
        Tree left;
        Tree right;

        Tree(String word, Tree left, Tree right) {
            this.word = word;
            this.left = left;
            this.right = right;
        }

        int value(int[] facts) {
            if (left == null) {
                int fact = FACTS.indexOf(word);
                return fact >= 0 ? facts[fact] : Integer.parseInt(word);
            }
            int a = left.value(facts);
            int b = right == null ? 0 : right.value(facts);
            switch (word) {
                case "not": return a == 0 ? 1 : 0;
                case "and": return a != 0 && b != 0 ? 1 : 0;
                case "or": return a != 0 || b != 0 ? 1 : 0;
                case "<": return a < b ? 1 : 0;
                case "=": return a == b ? 1 : 0;
                case "+": return a + b;
                case "-": return a - b;
                default: return a * b;
            }
        }
    }

    static final class Line {
        List<Integer> layers = new ArrayList<>();
        boolean open;

        Line copy() {
            Line line = new Line();
            line.layers.addAll(layers);
            line.open = open;
            return line;
        }

        int top() {
            return layers.get(layers.size() - 1);
        }
    }

    static final class World {
        int week;
        int[] thick = new int[3];
        Line[][] lines = new Line[3][6];

        World copy() {
            World world = new World();
            world.week = week;
            world.thick = thick.clone();
            for (int s = 0; s < 3; s++) {
                for (int l = 0; l < 6; l++) {
                    world.lines[s][l] = lines[s][l].copy();
                }
            }
            return world;
        }
    }

    static final class Mark {
        World world;
        List<String[]> plan;
        List<int[]> seen;
    }

    private String tape = "";
    private List<Skin> skins = new ArrayList<>();
    private List<Text> texts = new ArrayList<>();
    private List<Integer> damps = new ArrayList<>();
    private Tree law;
    private World world = fresh();
    private List<String[]> plan = new ArrayList<>();
    private List<int[]> seen = new ArrayList<>();
    private List<World> past = new ArrayList<>();
    private Mark[] marks = new Mark[4];
    private List<Token> tokens;
    private int at;

    // ---- reading ----

    int feed(long a, long b, long c) {
        StringBuilder sum = new StringBuilder(tape);
        for (long bytes : new long[] {a, b, c}) {
            for (int i = 7; i >= 0; i--) {
                int sign = (int) (bytes >> 8 * i & 255);
                if (sign == 10 || sign >= 32 && sign <= 126) {
                    sum.append((char) sign);
                }
            }
        }
        tape = sum.substring(0, Math.min(1000, sum.length()));
        return tape.length();
    }

    private void cutTape() {
        tokens = new ArrayList<>();
        at = 0;
        int i = 0;
        while (i < tape.length()) {
            int from = i;
            String sign = tape.substring(i, i + 1);
            if (sign.equals(" ") || sign.equals("\n")) {
                i++;
                continue;
            }
            String same = sign.matches("[a-z]") ? "[a-z]" : sign.matches("[0-9]") ? "[0-9]" : null;
            i++;
            while (same != null && i < tape.length() && tape.substring(i, i + 1).matches(same)) {
                i++;
            }
            Token token = new Token();
            token.place = from;
            token.text = tape.substring(from, i);
            tokens.add(token);
        }
        Token end = new Token();
        end.text = "";
        end.place = tape.length();
        tokens.add(end);
        tape = "";
    }

    private Token here() {
        return tokens.get(at);
    }

    private Token pass(boolean good, int kind) {
        if (!good) {
            throw new Fault(kind, here().place);
        }
        return here();
    }

    private void literally(String word) {
        pass(here().is(word), 1);
        at++;
    }

    private int number(int least, int most) {
        pass(here().number(), 1);
        int value = Integer.parseInt(here().text);
        pass(value >= least && value <= most, 4);
        return value;
    }

    private int taken(int least, int most) {
        int value = number(least, most);
        at++;
        return value;
    }

    private String name() {
        pass(here().word() && !KEPT.contains(here().text), 1);
        return here().text;
    }

    private static int skinOf(List<Skin> list, String name) {
        for (int i = 0; i < list.size(); i++) {
            if (list.get(i).name.equals(name)) {
                return i;
            }
        }
        return -1;
    }

    private static int textOf(List<Text> list, String name) {
        for (int i = 0; i < list.size(); i++) {
            if (list.get(i).name.equals(name)) {
                return i;
            }
        }
        return -1;
    }

    int library() {
        cutTape();
        List<Skin> newSkins = new ArrayList<>();
        List<Text> newTexts = new ArrayList<>();
        List<Integer> newDamps = new ArrayList<>();
        Tree[] newLaw = new Tree[1];
        try {
            while (!here().is("")) {
                statement(newSkins, newTexts, newDamps, newLaw);
            }
        } catch (Fault fault) {
            return fault.number;
        }
        skins = newSkins;
        texts = newTexts;
        damps = newDamps;
        law = newLaw[0];
        world = fresh();
        plan = new ArrayList<>();
        seen = new ArrayList<>();
        past = new ArrayList<>();
        marks = new Mark[4];
        return 0;
    }

    private void statement(List<Skin> newSkins, List<Text> newTexts, List<Integer> newDamps, Tree[] newLaw) {
        String first = here().text;
        pass(Arrays.asList("skin", "hole", "text", "damp", "shows").contains(first), 1);
        if (first.equals("skin")) {
            pass(newSkins.size() < 3, 5);
            at++;
            Skin skin = new Skin();
            skin.name = name();
            pass(skinOf(newSkins, skin.name) < 0 && textOf(newTexts, skin.name) < 0, 3);
            at++;
            literally("lines");
            skin.lines = taken(1, 6);
            literally("thick");
            skin.thick = taken(1, 30);
            newSkins.add(skin);
        } else if (first.equals("hole")) {
            at++;
            int index = skinOf(newSkins, name());
            pass(index >= 0, 2);
            at++;
            Skin skin = newSkins.get(index);
            int hole = number(0, skin.lines - 1);
            pass(!skin.holes.contains(hole), 3);
            at++;
            skin.holes.add(hole);
        } else if (first.equals("text")) {
            pass(newTexts.size() < 6, 5);
            at++;
            Text text = new Text();
            text.name = name();
            pass(skinOf(newSkins, text.name) < 0 && textOf(newTexts, text.name) < 0, 3);
            at++;
            text.kind = KINDS.indexOf(here().text);
            pass(text.kind >= 0, 1);
            at++;
            text.gall = here().is("gall");
            pass(text.gall || here().is("soot"), 1);
            at++;
            literally("lines");
            text.lines = taken(1, 6);
            newTexts.add(text);
        } else if (first.equals("damp")) {
            pass(newDamps.isEmpty(), 3);
            at++;
            do {
                int damp = number(0, 9);
                pass(newDamps.size() < 12, 5);
                at++;
                newDamps.add(damp);
            } while (here().number());
        } else {
            pass(newLaw[0] == null, 3);
            at++;
            newLaw[0] = tree(0);
        }
        literally(";");
    }

    private Tree tree(int around) {
        Tree left = test(around);
        while (here().is("and") || here().is("or")) {
            String joint = here().text;
            at++;
            left = new Tree(joint, left, test(around));
        }
        return left;
    }

    private Tree test(int around) {
        Tree left = sum(around);
        if (here().is("<") || here().is("=")) {
            String joint = here().text;
            at++;
            return new Tree(joint, left, sum(around));
        }
        return left;
    }

    private Tree sum(int around) {
        Tree left = product(around);
        while (here().is("+") || here().is("-")) {
            String joint = here().text;
            at++;
            left = new Tree(joint, left, product(around));
        }
        return left;
    }

    private Tree product(int around) {
        Tree left = part(around);
        while (here().is("*")) {
            at++;
            left = new Tree("*", left, part(around));
        }
        return left;
    }

    private Tree part(int around) {
        Token token = here();
        pass(token.number() || FACTS.contains(token.text) || token.is("not") || token.is("("), 1);
        pass(around < 5, 5);
        at++;
        if (token.is("not")) {
            return new Tree("not", part(around + 1), null);
        }
        if (token.is("(")) {
            Tree inner = tree(around + 1);
            literally(")");
            return inner;
        }
        return new Tree(token.text, null, null);
    }

    int year() {
        cutTape();
        List<String[]> newPlan = new ArrayList<>();
        try {
            while (!here().is("")) {
                String first = here().text;
                pass(Arrays.asList("write", "scrape", "third", "week").contains(first), 1);
                pass(newPlan.size() < 40, 5);
                at++;
                String[] line = {first, "", "", ""};
                if (first.equals("write")) {
                    line[1] = "" + textOf(texts, name());
                    pass(!line[1].equals("-1"), 2);
                    at++;
                }
                if (!first.equals("week")) {
                    line[2] = "" + skinOf(skins, name());
                    pass(!line[2].equals("-1"), 2);
                    at++;
                }
                if (first.equals("write")) {
                    line[3] = "" + taken(0, 5);
                }
                literally(";");
                newPlan.add(line);
            }
        } catch (Fault fault) {
            return fault.number;
        }
        plan = newPlan;
        return 0;
    }

    // ---- what is ----

    private World fresh() {
        World w = new World();
        for (int s = 0; s < 3; s++) {
            for (int l = 0; l < 6; l++) {
                w.lines[s][l] = new Line();
            }
            w.thick[s] = s < skins.size() ? skins.get(s).thick : 0;
        }
        return w;
    }

    private boolean isSkin(int s) {
        return s >= 0 && s < skins.size();
    }

    private boolean isText(int t) {
        return t >= 0 && t < texts.size();
    }

    private boolean isLine(int s, int l) {
        return isSkin(s) && l >= 0 && l < skins.get(s).lines;
    }

    private int damp(int week) {
        return damps.isEmpty() ? 0 : damps.get(week % damps.size());
    }

    private boolean shows(int t, int deep, int damp, int thick) {
        Text text = texts.get(t);
        int wet = damp + (text.kind == 1 ? 1 : 0);
        int deepFact = deep - (text.kind == 2 ? 1 : 0);
        int bite = text.gall ? 1 : 0;
        if (law == null) {
            return deepFact * 2 - bite < wet;
        }
        return law.value(new int[] {wet, deepFact, bite, thick}) != 0;
    }

    private int readAt(World w, int s, int l, int damp) {
        Line line = w.lines[s][l];
        if (line.open) {
            return line.top();
        }
        for (int i = line.layers.size() - 1; i >= 0; i--) {
            if (shows(line.layers.get(i), line.layers.size() - i, damp, w.thick[s])) {
                return line.layers.get(i);
            }
        }
        return -1;
    }

    private boolean whole(World w, int t, int damp) {
        int wanted = texts.get(t).lines;
        for (int s = 0; s < skins.size(); s++) {
            for (int from = 0; from + wanted <= skins.get(s).lines; from++) {
                boolean all = true;
                for (int l = from; l < from + wanted; l++) {
                    all &= readAt(w, s, l, damp) == t;
                }
                if (all) {
                    return true;
                }
            }
        }
        return false;
    }

    private int wholes(World w) {
        int bits = 0;
        for (int t = 0; t < texts.size(); t++) {
            bits |= whole(w, t, damp(w.week)) ? 1 << t : 0;
        }
        return bits;
    }

    private boolean writable(World w, int t, int s, int l) {
        if (!isText(t) || !isSkin(s) || l < 0 || w.thick[s] <= 0) {
            return false;
        }
        for (int i = 0; i < texts.get(t).lines; i++) {
            if (!isLine(s, l) || l + i >= skins.get(s).lines || skins.get(s).holes.contains(l + i)
                || w.lines[s][l + i].open || w.lines[s][l + i].layers.size() >= 9) {
                return false;
            }
        }
        return true;
    }

    private void lay(World w, int t, int s, int l) {
        for (int i = 0; i < texts.get(t).lines; i++) {
            w.lines[s][l + i].layers.add(t);
            w.lines[s][l + i].open = true;
        }
    }

    private boolean rub(World w, int s, boolean third) {
        boolean any = false;
        boolean gall = false;
        boolean oath = false;
        for (int l = 0; l < 6; l++) {
            Line line = w.lines[s][l];
            if (line.open && (!third || l % 3 == 0)) {
                any = true;
                gall |= texts.get(line.top()).gall;
                oath |= texts.get(line.top()).kind == 3;
                line.open = false;
            }
        }
        if (!any) {
            return false;
        }
        w.thick[s] -= 1 + (gall ? 1 : 0) + (oath ? 1 : 0);
        if (w.thick[s] <= 0) {
            w.thick[s] = 0;
            for (int l = 0; l < 6; l++) {
                w.lines[s][l] = new Line();
            }
        }
        return true;
    }

    private void remember() {
        past.add(world.copy());
        if (past.size() > 16) {
            past.remove(0);
        }
    }

    private int placeIn(World w, int t, int s) {
        for (int l = 0; l < 6; l++) {
            if (writable(w, t, s, l)) {
                return l;
            }
        }
        return -1;
    }

    // ---- the calls ----

    int skin(int s, int what) {
        if (!isSkin(s) || what < 0 || what > 4) {
            return -1;
        }
        if (what == 0) {
            return skins.get(s).lines;
        }
        if (what == 1) {
            return world.thick[s];
        }
        int bits = 0;
        for (int l = 0; l < skins.get(s).lines; l++) {
            boolean is = what == 2 ? skins.get(s).holes.contains(l)
                : what == 3 ? world.lines[s][l].open : readAt(world, s, l, damp(world.week)) >= 0;
            bits |= is ? 1 << l : 0;
        }
        return bits;
    }

    int text(int t, int what) {
        if (!isText(t) || what < 0 || what > 4) {
            return -2;
        }
        switch (what) {
            case 0: return texts.get(t).kind;
            case 1: return texts.get(t).gall ? 1 : 0;
            case 2: return texts.get(t).lines;
            case 3: return whole(world, t, damp(world.week)) ? 1 : 0;
            default:
                int made = 0;
                for (int s = 0; s < skins.size(); s++) {
                    for (int l = 0; l < skins.get(s).lines; l++) {
                        made += readAt(world, s, l, damp(world.week)) == t ? 1 : 0;
                    }
                }
                return made;
        }
    }

    int layers(int s, int l) {
        return isLine(s, l) ? world.lines[s][l].layers.size() : -1;
    }

    int layer(int s, int l, int i) {
        return isLine(s, l) && i >= 0 && i < world.lines[s][l].layers.size() ? world.lines[s][l].layers.get(i) : -1;
    }

    int read(int s, int l) {
        return later(s, l, 0);
    }

    boolean write(int t, int s, int l) {
        if (!writable(world, t, s, l)) {
            return false;
        }
        remember();
        lay(world, t, s, l);
        return true;
    }

    int scrape(int s) {
        return rubByHand(s, false);
    }

    int third(int s) {
        return rubByHand(s, true);
    }

    private int rubByHand(int s, boolean third) {
        if (!isSkin(s) || !rub(world.copy(), s, third)) {
            return -1;
        }
        remember();
        rub(world, s, third);
        return world.thick[s];
    }

    int week() {
        remember();
        return ++world.week;
    }

    boolean undo() {
        if (past.isEmpty()) {
            return false;
        }
        world = past.remove(past.size() - 1);
        return true;
    }

    private int goneOf(World w) {
        int bits = 0;
        for (int s = 0; s < skins.size(); s++) {
            bits |= w.thick[s] <= 0 ? 1 << s : 0;
        }
        return bits;
    }

    int judged(int what) {
        World w = fresh();
        int cant = -1;
        int gone = -1;
        for (int i = 0; i < plan.size(); i++) {
            String[] line = plan.get(i);
            boolean can = true;
            if (line[0].equals("week")) {
                w.week++;
            } else if (line[0].equals("write")) {
                int t = Integer.parseInt(line[1]);
                int s = Integer.parseInt(line[2]);
                int l = Integer.parseInt(line[3]);
                can = writable(w, t, s, l);
                if (can) {
                    lay(w, t, s, l);
                }
            } else {
                can = rub(w, Integer.parseInt(line[2]), line[0].equals("third"));
            }
            cant = !can && cant < 0 ? i : cant;
            gone = goneOf(w) != 0 && gone < 0 ? i : gone;
        }
        return what == 0 ? cant : what == 1 ? gone : what == 2 ? Integer.bitCount(wholes(w)) : -2;
    }

    int later(int s, int l, int weeks) {
        return isLine(s, l) && weeks >= 0 && weeks <= 40 ? readAt(world, s, l, damp(world.week + weeks)) : -1;
    }

    int when(int t) {
        for (int weeks = 0; weeks <= 40 && isText(t); weeks++) {
            if (whole(world, t, damp(world.week + weeks))) {
                return weeks;
            }
        }
        return -1;
    }

    int need(int t) {
        for (int damp = 0; damp <= 9 && isText(t); damp++) {
            if (whole(world, t, damp)) {
                return damp;
            }
        }
        return -1;
    }

    int lost() {
        int bits = 0;
        for (int t = 0; t < texts.size(); t++) {
            boolean laid = false;
            boolean read = false;
            for (int s = 0; s < skins.size(); s++) {
                for (int l = 0; l < skins.get(s).lines; l++) {
                    laid |= world.lines[s][l].layers.contains(t);
                    for (int damp = 0; damp <= 9; damp++) {
                        read |= readAt(world, s, l, damp) == t;
                    }
                }
            }
            bits |= laid && !read ? 1 << t : 0;
        }
        return bits;
    }

    int place(int t, int s) {
        return placeIn(world, t, s);
    }

    int cost(int t, int s) {
        if (!isText(t) || !isSkin(s)) {
            return -1;
        }
        int best = placeIn(world, t, s) >= 0 ? 0 : 99;
        for (int third = 0; third < 2; third++) {
            World w = world.copy();
            if (rub(w, s, third == 1) && w.thick[s] > 0 && placeIn(w, t, s) >= 0) {
                best = Math.min(best, world.thick[s] - w.thick[s]);
            }
        }
        return best == 99 ? -1 : best;
    }

    private int[] bestRow;
    private int bestCount;

    private void tryRows(World w, int t, int[] row, int count) {
        if (count + texts.size() - t <= bestCount) {
            return;
        }
        if (t == texts.size()) {
            bestRow = row.clone();
            bestCount = count;
            return;
        }
        for (int s = 0; s < skins.size(); s++) {
            for (int l = 0; l < 6; l++) {
                if (writable(w, t, s, l)) {
                    lay(w, t, s, l);
                    row[t] = 6 * s + l;
                    tryRows(w, t + 1, row, count + 1);
                    for (int i = l; i < l + texts.get(t).lines; i++) {
                        w.lines[s][i].open = false;
                        w.lines[s][i].layers.remove(w.lines[s][i].layers.size() - 1);
                    }
                }
            }
        }
        row[t] = -1;
        tryRows(w, t + 1, row, count);
    }

    int lay(int t) {
        if (t != -1 && !isText(t)) {
            return -2;
        }
        bestCount = -1;
        tryRows(world.copy(), 0, new int[texts.size()], 0);
        return t == -1 ? bestCount : bestRow[t];
    }

    int bears(int s, int t) {
        if (!isSkin(s) || !isText(t)) {
            return -1;
        }
        World w = world.copy();
        for (int times = 0;; times++) {
            int l = placeIn(w, t, s);
            if (l < 0) {
                return times;
            }
            lay(w, t, s, l);
            rub(w, s, false);
        }
    }

    int over(int t) {
        if (!isText(t)) {
            return -1;
        }
        int bits = 0;
        for (int s = 0; s < skins.size(); s++) {
            for (int l = 0; l < skins.get(s).lines; l++) {
                List<Integer> layers = world.lines[s][l].layers;
                for (int i = 0; i < layers.size(); i++) {
                    for (int j = i + 1; j < layers.size(); j++) {
                        bits |= layers.get(i) == t ? 1 << layers.get(j) : 0;
                    }
                }
            }
        }
        return bits;
    }

    int deepest(int s) {
        int best = -1;
        for (int l = 0; isLine(s, l); l++) {
            if (best < 0 || layers(s, l) > layers(s, best)) {
                best = l;
            }
        }
        return best;
    }

    int bare(int s) {
        if (!isSkin(s)) {
            return -1;
        }
        int bits = 0;
        for (int l = 0; l < skins.get(s).lines; l++) {
            bits |= layers(s, l) == 0 && !skins.get(s).holes.contains(l) ? 1 << l : 0;
        }
        return bits;
    }

    int same() {
        List<List<Integer>> all = new ArrayList<>();
        for (int s = 0; s < skins.size(); s++) {
            for (int l = 0; l < skins.get(s).lines; l++) {
                all.add(world.lines[s][l].layers);
            }
        }
        int pairs = 0;
        for (int i = 0; i < all.size(); i++) {
            for (int j = i + 1; j < all.size(); j++) {
                pairs += !all.get(i).isEmpty() && all.get(i).equals(all.get(j)) ? 1 : 0;
            }
        }
        return pairs;
    }

    int giveup() {
        int best = -1;
        int least = 99;
        for (int s = 0; s < skins.size(); s++) {
            World w = world.copy();
            if (rub(w, s, false)) {
                int given = Integer.bitCount(wholes(world) & ~wholes(w));
                if (given < least) {
                    least = given;
                    best = s;
                }
            }
        }
        return best;
    }

    int psalter(int t) {
        int sum = 0;
        for (int damp = 0; damp <= 9 && isText(t); damp++) {
            sum += whole(world, t, damp) ? 1 : 0;
        }
        return isText(t) ? sum : -1;
    }

    boolean see(int s, int deep, int damp, boolean shows) {
        if (!isSkin(s) || deep < 1 || deep > 9 || damp < 0 || damp > 9 || seen.size() >= 8) {
            return false;
        }
        seen.add(new int[] {s, deep, damp, shows ? 1 : 0});
        return true;
    }

    int who() {
        int bits = 0;
        for (int t = 0; t < texts.size(); t++) {
            boolean all = true;
            for (int[] one : seen) {
                all &= shows(t, one[1], one[2], world.thick[one[0]]) == (one[3] == 1);
            }
            bits |= all ? 1 << t : 0;
        }
        return bits;
    }

    int ask(int s) {
        int best = Integer.bitCount(who());
        int answer = -1;
        for (int deep = 1; deep <= 9 && isSkin(s); deep++) {
            for (int damp = 0; damp <= 9; damp++) {
                int yes = 0;
                int no = 0;
                for (int t = 0; t < texts.size(); t++) {
                    if ((who() & 1 << t) != 0) {
                        if (shows(t, deep, damp, world.thick[s])) {
                            yes++;
                        } else {
                            no++;
                        }
                    }
                }
                if (Math.max(yes, no) < best) {
                    best = Math.max(yes, no);
                    answer = 10 * deep + damp;
                }
            }
        }
        return answer;
    }

    int chance(int t, int weeks, int odds) {
        if (!isText(t) || weeks < 1 || weeks > 6 || odds < 0 || odds > 10) {
            return -1;
        }
        long sum = 0;
        long all = 1;
        for (int i = 0; i < weeks; i++) {
            all *= 10;
        }
        for (int weather = 0; weather < 1 << weeks; weather++) {
            long weight = 1;
            boolean once = false;
            for (int i = 0; i < weeks; i++) {
                boolean wet = (weather >> i & 1) == 1;
                weight *= wet ? odds : 10 - odds;
                once |= whole(world, t, wet ? 9 : 0);
            }
            sum += once ? weight : 0;
        }
        return (int) (sum * 1000000 / all);
    }

    int rests(int lose, int reads, int waits, int what) {
        if (Math.min(lose, Math.min(reads, waits)) < 0 || Math.max(lose, Math.max(reads, waits)) > 9) {
            throw new NoSuchElementException();
        }
        // By the first one's choice and the other one's: what the first one gets.
        int[][] gains = {{0, waits}, {reads, -lose}};
        List<Integer> found = new ArrayList<>();
        for (int a = 0; a < 2; a++) {
            for (int b = 0; b < 2; b++) {
                if (gains[1 - a][b] <= gains[a][b] && gains[1 - b][a] <= gains[b][a]) {
                    found.add(2 * a + b);
                }
            }
        }
        if (what == -1) {
            return found.size();
        }
        if (what < 0 || what >= found.size()) {
            throw new NoSuchElementException();
        }
        return found.get(what);
    }

    int years(int seed, int weeks, int what) {
        if (seed < 0 || seed > 9999 || weeks < 1 || weeks > 99 || what < 0 || what > 2) {
            return -1;
        }
        World w = world.copy();
        long[] g = {seed};
        int written = 0;
        for (int i = 0; i < weeks; i++) {
            if (!texts.isEmpty() && !skins.isEmpty()) {
                int t = draw(g, texts.size());
                int s = draw(g, skins.size());
                int l = draw(g, 6);
                if (writable(w, t, s, l)) {
                    lay(w, t, s, l);
                    written++;
                } else {
                    int which = draw(g, 3);
                    if (which != 2) {
                        rub(w, s, which == 1);
                    }
                }
            }
            w.week++;
        }
        return what == 0 ? written : what == 1 ? wholes(w) : Arrays.stream(w.thick).sum();
    }

    private static int draw(long[] g, int m) {
        g[0] = (g[0] * 1103515245L + 12345L) % 2147483648L;
        return (int) (g[0] / 65536 % m);
    }

    boolean mark(int m, boolean back) {
        if (m < 0 || m > 3 || back && marks[m] == null) {
            return false;
        }
        if (back) {
            world = marks[m].world.copy();
            plan = marks[m].plan;
            seen = new ArrayList<>(marks[m].seen);
            past = new ArrayList<>();
        } else {
            marks[m] = new Mark();
            marks[m].world = world.copy();
            marks[m].plan = plan;
            marks[m].seen = new ArrayList<>(seen);
        }
        return true;
    }

    int count(int what) {
        switch (what) {
            case 0: return skins.size();
            case 1: return texts.size();
            case 2: return world.week;
            case 3: return damp(world.week);
            case 4: return Arrays.stream(world.thick).sum();
            case 5: return goneOf(world);
            case 6:
                int sum = 0;
                for (int s = 0; s < 3; s++) {
                    for (int l = 0; l < 6; l++) {
                        sum += world.lines[s][l].layers.size();
                    }
                }
                return sum;
            case 7: return wholes(world);
            case 8: return plan.size();
            case 9: return seen.size();
            case 10: return past.size();
            case 11: return tape.length();
            default: return -1;
        }
    }
}
