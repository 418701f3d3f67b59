import java.util.NoSuchElementException;

/** Skins that are written on, scraped and written on again; ../shared/DOC.md says what every call answers. */
public final class WornSkin {
    public static final int NONE = -1;

    private static final int OTHER = -2;
    private static final int MOST_SKINS = 3;
    private static final int MOST_TEXTS = 6;
    private static final int MOST_LINES = 6;
    private static final int PLACES = MOST_SKINS * MOST_LINES;
    private static final int MOST_LAYERS = 9;
    private static final int MOST_DAMP = 9;
    private static final int MOST_WEEKS_AHEAD = 40;
    private static final int MARKS = 4;
    private static final int ALL_LINES = 63;
    private static final int THIRD_LINES = 9;

    private final Tape tape = new Tape();
    private final Library told = new Library();
    private final Library toldDraft = new Library();
    private final Shelf now = new Shelf(told);
    private final Shelf trial = new Shelf(told);
    private final Year plan = new Year();
    private final Year planDraft = new Year();
    private final Seen seen = new Seen();
    private final Undoing undoing = new Undoing(told);
    private final Layout layout = new Layout(told);
    private final Draws draws = new Draws();
    private final Bookmark[] bookmarks = new Bookmark[MARKS];

    public WornSkin() {
        for (int i = 0; i < MARKS; i++) {
            bookmarks[i] = new Bookmark(told);
        }
    }

    public int feed(long a, long b, long c) {
        tape.addBytes(a);
        tape.addBytes(b);
        tape.addBytes(c);
        return tape.length;
    }

    public int library() {
        int fault = toldDraft.readFrom(tape);
        tape.clear();
        if (fault != 0) {
            return fault;
        }
        told.copyFrom(toldDraft);
        now.begin();
        plan.clear();
        seen.clear();
        undoing.clear();
        for (int i = 0; i < MARKS; i++) {
            bookmarks[i].laid = false;
        }
        return 0;
    }

    public int year() {
        int fault = planDraft.readFrom(tape, told);
        tape.clear();
        if (fault == 0) {
            plan.copyFrom(planDraft);
        }
        return fault;
    }

    public int skin(int skin, int what) {
        if (!told.hasSkin(skin)) {
            return NONE;
        }
        switch (what) {
            case 0:
                return told.lines[skin];
            case 1:
                return now.thick[skin];
            case 2:
                return told.holes[skin];
            case 3:
                return now.open[skin];
            case 4:
                return now.shownLines(skin, now.damp());
            default:
                return NONE;
        }
    }

    public int text(int text, int what) {
        if (!told.hasText(text)) {
            return OTHER;
        }
        switch (what) {
            case 0:
                return told.kinds[text];
            case 1:
                return told.galls[text];
            case 2:
                return told.textLines[text];
            case 3:
                return now.isWhole(text, now.damp()) ? 1 : 0;
            case 4:
                return now.made(text, now.damp());
            default:
                return OTHER;
        }
    }

    public int layers(int skin, int line) {
        return told.hasLine(skin, line) ? now.heights[MOST_LINES * skin + line] : NONE;
    }

    public int layer(int skin, int line, int i) {
        if (!told.hasLine(skin, line) || i < 0 || i >= now.heights[MOST_LINES * skin + line]) {
            return NONE;
        }
        return now.layerAt(MOST_LINES * skin + line, i);
    }

    public int read(int skin, int line) {
        return told.hasLine(skin, line) ? now.shown(skin, line, now.damp()) : NONE;
    }

    public boolean write(int text, int skin, int line) {
        if (!told.hasText(text) || !told.hasSkin(skin) || !now.canWrite(text, skin, line)) {
            return false;
        }
        undoing.keep(now);
        now.put(text, skin, line);
        return true;
    }

    public int scrape(int skin) {
        return rubByHand(skin, ALL_LINES);
    }

    public int third(int skin) {
        return rubByHand(skin, THIRD_LINES);
    }

    private int rubByHand(int skin, int lines) {
        if (!told.hasSkin(skin) || !now.canRub(skin, lines)) {
            return NONE;
        }
        undoing.keep(now);
        now.rub(skin, lines);
        return now.thick[skin];
    }

    public int week() {
        undoing.keep(now);
        now.week++;
        return now.week;
    }

    public boolean undo() {
        return undoing.takeBack(now);
    }

    public int judged(int what) {
        if (what < 0 || what > 2) {
            return OTHER;
        }
        trial.begin();
        int refused = NONE;
        int gone = NONE;
        for (int i = 0; i < plan.count; i++) {
            int goneAhead = trial.goneSkins();
            boolean can = trial.follow(plan.lines[i]);
            if (!can && refused == NONE) {
                refused = i;
            }
            if (trial.goneSkins() != goneAhead && gone == NONE) {
                gone = i;
            }
        }
        if (what == 2) {
            return Integer.bitCount(trial.wholeTexts(trial.damp()));
        }
        return what == 0 ? refused : gone;
    }

    public int later(int skin, int line, int weeks) {
        if (!told.hasLine(skin, line) || weeks < 0 || weeks > MOST_WEEKS_AHEAD) {
            return NONE;
        }
        return now.shown(skin, line, told.dampOf(now.week + weeks));
    }

    public int when(int text) {
        if (!told.hasText(text)) {
            return NONE;
        }
        // The damp comes again behind so many weeks, so later ones show nothing new.
        int fresh = Math.max(1, told.damps);
        for (int weeks = 0; weeks < fresh && weeks <= MOST_WEEKS_AHEAD; weeks++) {
            if (now.isWhole(text, told.dampOf(now.week + weeks))) {
                return weeks;
            }
        }
        return NONE;
    }

    public int need(int text) {
        if (!told.hasText(text)) {
            return NONE;
        }
        for (int damp = 0; damp <= MOST_DAMP; damp++) {
            if (now.isWhole(text, damp)) {
                return damp;
            }
        }
        return NONE;
    }

    public int lost() {
        int hidden = now.textsLaid();
        for (int damp = 0; damp <= MOST_DAMP && hidden != 0; damp++) {
            hidden &= ~now.shownTexts(damp);
        }
        return hidden;
    }

    public int place(int text, int skin) {
        return told.hasText(text) && told.hasSkin(skin) ? now.firstPlace(text, skin) : NONE;
    }

    public int cost(int text, int skin) {
        if (!told.hasText(text) || !told.hasSkin(skin)) {
            return NONE;
        }
        if (now.firstPlace(text, skin) != NONE) {
            return 0;
        }
        int byThird = costOfRubbing(text, skin, THIRD_LINES);
        int byScrape = costOfRubbing(text, skin, ALL_LINES);
        if (byThird == NONE || byScrape == NONE) {
            return Math.max(byThird, byScrape);
        }
        return Math.min(byThird, byScrape);
    }

    private int costOfRubbing(int text, int skin, int lines) {
        if (!now.canRub(skin, lines)) {
            return NONE;
        }
        trial.copyFrom(now);
        trial.rub(skin, lines);
        return trial.firstPlace(text, skin) == NONE ? NONE : now.thick[skin] - trial.thick[skin];
    }

    public int lay(int text) {
        if (text != NONE && !told.hasText(text)) {
            return OTHER;
        }
        layout.find(now.freeLines());
        return text == NONE ? layout.most : layout.places[text];
    }

    public int bears(int skin, int text) {
        if (!told.hasSkin(skin) || !told.hasText(text)) {
            return NONE;
        }
        trial.copyFrom(now);
        int times = 0;
        int bound = now.thick[skin];
        for (int i = 0; i < bound; i++) {
            int line = trial.firstPlace(text, skin);
            if (line == NONE) {
                break;
            }
            trial.put(text, skin, line);
            trial.rub(skin, ALL_LINES);
            times++;
        }
        return times;
    }

    public int over(int text) {
        return told.hasText(text) ? now.textsOver(text) : NONE;
    }

    public int deepest(int skin) {
        if (!told.hasSkin(skin)) {
            return NONE;
        }
        int best = 0;
        for (int line = 1; line < told.lines[skin]; line++) {
            if (now.heights[MOST_LINES * skin + line] > now.heights[MOST_LINES * skin + best]) {
                best = line;
            }
        }
        return best;
    }

    public int bare(int skin) {
        if (!told.hasSkin(skin)) {
            return NONE;
        }
        int lines = 0;
        for (int line = 0; line < told.lines[skin]; line++) {
            if (now.heights[MOST_LINES * skin + line] == 0) {
                lines |= 1 << line;
            }
        }
        return lines & ~told.holes[skin];
    }

    public int same() {
        return now.pairsAlike();
    }

    public int giveup() {
        int wholeAhead = now.wholeTexts(now.damp());
        int best = NONE;
        int fewest = MOST_TEXTS + 1;
        for (int skin = 0; skin < told.skins; skin++) {
            if (now.canRub(skin, ALL_LINES)) {
                trial.copyFrom(now);
                trial.rub(skin, ALL_LINES);
                int given = Integer.bitCount(wholeAhead & ~trial.wholeTexts(trial.damp()));
                if (given < fewest) {
                    fewest = given;
                    best = skin;
                }
            }
        }
        return best;
    }

    public int psalter(int text) {
        if (!told.hasText(text)) {
            return NONE;
        }
        int damps = 0;
        for (int damp = 0; damp <= MOST_DAMP; damp++) {
            if (now.isWhole(text, damp)) {
                damps++;
            }
        }
        return damps;
    }

    public boolean see(int skin, int deep, int damp, boolean shows) {
        if (!told.hasSkin(skin) || deep < 1 || deep > MOST_LAYERS || damp < 0 || damp > MOST_DAMP) {
            return false;
        }
        return seen.add(skin, deep, damp, shows);
    }

    public int who() {
        return textsAsSeen();
    }

    private int textsAsSeen() {
        int texts = 0;
        for (int text = 0; text < told.texts; text++) {
            if (seen.agrees(text, told, now)) {
                texts |= 1 << text;
            }
        }
        return texts;
    }

    public int ask(int skin) {
        if (!told.hasSkin(skin)) {
            return NONE;
        }
        int texts = textsAsSeen();
        int all = Integer.bitCount(texts);
        int least = all;
        int answer = NONE;
        for (int deep = 1; deep <= MOST_LAYERS; deep++) {
            for (int damp = 0; damp <= MOST_DAMP; damp++) {
                int showing = told.howManyShow(texts, deep, damp, now.thick[skin]);
                int greater = Math.max(showing, all - showing);
                if (greater < least) {
                    least = greater;
                    answer = 10 * deep + damp;
                }
            }
        }
        return answer;
    }

    public int chance(int text, int weeks, int odds) {
        if (!told.hasText(text) || weeks < 1 || weeks > 6 || odds < 0 || odds > 10) {
            return NONE;
        }
        boolean byWet = now.isWhole(text, MOST_DAMP);
        boolean byDry = now.isWhole(text, 0);
        // Millionths hold six tenths multiplied exactly, so nothing is ever left to cut.
        int never = 1000000;
        for (int i = 0; i < weeks; i++) {
            int missing = (byWet ? 0 : odds) + (byDry ? 0 : 10 - odds);
            never = never / 10 * missing;
        }
        return 1000000 - never;
    }

    public int rests(int lose, int reads, int waits, int what) throws NoSuchElementException {
        if (!isGain(lose) || !isGain(reads) || !isGain(waits) || what < NONE) {
            throw new NoSuchElementException();
        }
        int found = 0;
        for (int choices = 0; choices < 4; choices++) {
            boolean first = choices >= 2;
            boolean second = choices % 2 == 1;
            if (isContent(first, second, lose, reads, waits) && isContent(second, first, lose, reads, waits)) {
                if (found == what) {
                    return choices;
                }
                found++;
            }
        }
        if (what != NONE) {
            throw new NoSuchElementException();
        }
        return found;
    }

    private static boolean isGain(int gain) {
        return gain >= 0 && gain <= 9;
    }

    private static boolean isContent(boolean mine, boolean his, int lose, int reads, int waits) {
        return gainOf(mine, his, lose, reads, waits) >= gainOf(!mine, his, lose, reads, waits);
    }

    private static int gainOf(boolean mine, boolean his, int lose, int reads, int waits) {
        if (mine) {
            return his ? -lose : reads;
        }
        return his ? waits : 0;
    }

    public int years(int seed, int weeks, int what) {
        if (seed < 0 || seed > 9999 || weeks < 1 || weeks > 99 || what < 0 || what > 2) {
            return NONE;
        }
        trial.copyFrom(now);
        draws.start(seed);
        int written = 0;
        for (int i = 0; i < weeks; i++) {
            if (told.texts > 0 && told.skins > 0 && trial.liveByDraws(draws)) {
                written++;
            }
            trial.week++;
        }
        if (what == 0) {
            return written;
        }
        return what == 1 ? trial.wholeTexts(trial.damp()) : trial.thickTogether();
    }

    public boolean mark(int mark, boolean back) {
        if (mark < 0 || mark >= MARKS) {
            return false;
        }
        Bookmark bookmark = bookmarks[mark];
        if (!back) {
            bookmark.keep(now, plan, seen);
            return true;
        }
        if (!bookmark.laid) {
            return false;
        }
        now.copyFrom(bookmark.shelf);
        plan.copyFrom(bookmark.plan);
        seen.copyFrom(bookmark.seen);
        undoing.clear();
        return true;
    }

    public int count(int what) {
        switch (what) {
            case 0:
                return told.skins;
            case 1:
                return told.texts;
            case 2:
                return now.week;
            case 3:
                return now.damp();
            case 4:
                return now.thickTogether();
            case 5:
                return now.goneSkins();
            case 6:
                return now.layersTogether();
            case 7:
                return now.wholeTexts(now.damp());
            case 8:
                return plan.count;
            case 9:
                return seen.count;
            case 10:
                return undoing.kept;
            case 11:
                return tape.length;
            default:
                return NONE;
        }
    }

    /** The TAPE, its tokens one by one, and the first FAULT that was found in it. */
    private static final class Tape {
        static final int SIZE = 1000;
        static final int MISPLACED = 1;
        static final int UNKNOWN = 2;
        static final int TOLD_ALREADY = 3;
        static final int OUT_OF_RANGE = 4;
        static final int TOO_MANY = 5;

        private static final int END = 0;
        private static final int WORD = 1;
        private static final int NUMBER = 2;
        private static final int SIGN = 3;
        private static final int NO_TOKEN = 4;
        private static final int LONGEST_WORD = 8;
        private static final int LONGEST_NUMBER = 4;

        private final byte[] signs = new byte[SIZE];
        int length;
        private int kind;
        private int place;
        private int behind;
        int number;
        long name;
        int fault;

        void clear() {
            length = 0;
        }

        void addBytes(long bytes) {
            for (int shift = 56; shift >= 0; shift -= 8) {
                int sign = (int) (bytes >>> shift) & 255;
                if (length < SIZE && (sign == 10 || (sign >= 32 && sign <= 126))) {
                    signs[length] = (byte) sign;
                    length++;
                }
            }
        }

        void rewind() {
            behind = 0;
            fault = 0;
            next();
        }

        boolean isSound() {
            return fault == 0;
        }

        boolean isAtEnd() {
            return kind == END;
        }

        /** Only the first FAULT counts, and no token is taken behind it. */
        void fail(int why) {
            if (fault == 0) {
                fault = why + 16 * place;
            }
        }

        void next() {
            if (fault != 0) {
                return;
            }
            place = behind;
            while (place < length && (signs[place] == 10 || signs[place] == 32)) {
                place++;
            }
            behind = place;
            if (place >= length) {
                kind = END;
                return;
            }
            int sign = signs[place];
            if (sign >= 'a' && sign <= 'z') {
                takeLetters();
            } else if (sign >= '0' && sign <= '9') {
                takeDigits();
            } else {
                kind = "()<=+-*;".indexOf((char) sign) >= 0 ? SIGN : NO_TOKEN;
                behind = place + 1;
            }
        }

        private void takeLetters() {
            name = 0;
            while (behind < length && signs[behind] >= 'a' && signs[behind] <= 'z') {
                name = name * 32 + (signs[behind] - 'a' + 1);
                behind++;
            }
            kind = behind - place <= LONGEST_WORD ? WORD : NO_TOKEN;
        }

        private void takeDigits() {
            number = 0;
            while (behind < length && signs[behind] >= '0' && signs[behind] <= '9') {
                number = number * 10 + (signs[behind] - '0');
                behind++;
            }
            kind = behind - place <= LONGEST_NUMBER ? NUMBER : NO_TOKEN;
        }

        boolean isNumber() {
            return kind == NUMBER;
        }

        boolean isSign(char sign) {
            return kind == SIGN && place < length && signs[place] == sign;
        }

        boolean isWord(String word) {
            if (kind != WORD || behind - place != word.length() || behind > length) {
                return false;
            }
            for (int i = 0; i < word.length(); i++) {
                if (signs[place + i] != word.charAt(i)) {
                    return false;
                }
            }
            return true;
        }

        boolean isName() {
            boolean kept = isWord("skin") || isWord("lines") || isWord("thick") || isWord("hole")
                || isWord("text") || isWord("damp") || isWord("shows")
                || isWord("write") || isWord("scrape") || isWord("third") || isWord("week")
                || isWord("gall") || isWord("soot")
                || isWord("charter") || isWord("psalm") || isWord("recipe") || isWord("oath")
                || isWord("not") || isWord("and") || isWord("or");
            return kind == WORD && !kept;
        }

        void takeWord(String word) {
            if (isWord(word)) {
                next();
            } else {
                fail(MISPLACED);
            }
        }

        void takeSign(char sign) {
            if (isSign(sign)) {
                next();
            } else {
                fail(MISPLACED);
            }
        }

        boolean isNumberWithin(int least, int most) {
            if (kind != NUMBER) {
                fail(MISPLACED);
            } else if (number < least || number > most) {
                fail(OUT_OF_RANGE);
            }
            return fault == 0;
        }

        int takeNumber(int least, int most) {
            int value = number;
            if (isNumberWithin(least, most)) {
                next();
            }
            return value;
        }
    }

    /** The law of what shows: its E as steps over a stack of ints. */
    private static final class Law {
        // A step that is not below 0 puts that number.
        private static final int WET = -1;
        private static final int DEEP = -2;
        private static final int BITE = -3;
        private static final int THIN = -4;
        private static final int NOT = -5;
        private static final int AND = -6;
        private static final int OR = -7;
        private static final int LESS = -8;
        private static final int EQUAL = -9;
        private static final int PLUS = -10;
        private static final int MINUS = -11;
        private static final int TIMES = -12;

        private static final int CHAIN_LEVEL = 0;
        private static final int TEST_LEVEL = 1;
        private static final int SUM_LEVEL = 2;
        private static final int PRODUCT_LEVEL = 3;
        private static final int MOST_AROUND = 4;
        // Four levels of joints, each within at most four ( ), leave at most 21 values waiting.
        private static final int STACK = 32;

        // No step comes of less than one sign of the TAPE.
        private final int[] steps = new int[Tape.SIZE];
        private int length;
        private boolean told;
        private final int[] stack = new int[STACK];

        void copyFrom(Law other) {
            System.arraycopy(other.steps, 0, steps, 0, other.length);
            length = other.length;
        }

        void setUntold() {
            told = false;
            length = 0;
            add(DEEP);
            add(2);
            add(TIMES);
            add(BITE);
            add(MINUS);
            add(WET);
            add(LESS);
        }

        private void add(int step) {
            if (length < steps.length) {
                steps[length] = step;
                length++;
            }
        }

        /** Reads shows E ; which may be told once. */
        void readFrom(Tape tape) {
            if (told) {
                tape.fail(Tape.TOLD_ALREADY);
                return;
            }
            told = true;
            length = 0;
            tape.next();
            readLevel(tape, CHAIN_LEVEL, 0);
            tape.takeSign(';');
        }

        /** Reads an E (or, by a higher level, a part of one) that lies within so many not and ( ). */
        private void readLevel(Tape tape, int level, int around) {
            if (level > PRODUCT_LEVEL) {
                readPart(tape, around);
                return;
            }
            readLevel(tape, level + 1, around);
            int most = level == TEST_LEVEL ? 1 : Tape.SIZE;
            for (int i = 0; i < most && tape.isSound(); i++) {
                int joint = jointAt(tape, level);
                if (joint == 0) {
                    break;
                }
                tape.next();
                readLevel(tape, level + 1, around);
                add(joint);
            }
        }

        private static int jointAt(Tape tape, int level) {
            switch (level) {
                case CHAIN_LEVEL:
                    return tape.isWord("and") ? AND : tape.isWord("or") ? OR : 0;
                case TEST_LEVEL:
                    return tape.isSign('<') ? LESS : tape.isSign('=') ? EQUAL : 0;
                case SUM_LEVEL:
                    return tape.isSign('+') ? PLUS : tape.isSign('-') ? MINUS : 0;
                default:
                    return tape.isSign('*') ? TIMES : 0;
            }
        }

        private void readPart(Tape tape, int around) {
            if (!tape.isSound()) {
                return;
            }
            int fact = factAt(tape);
            boolean isNot = tape.isWord("not");
            if (fact == 0 && !isNot && !tape.isNumber() && !tape.isSign('(')) {
                tape.fail(Tape.MISPLACED);
            } else if (around > MOST_AROUND) {
                tape.fail(Tape.TOO_MANY);
            } else if (isNot) {
                tape.next();
                readPart(tape, around + 1);
                add(NOT);
            } else if (tape.isSign('(')) {
                tape.next();
                readLevel(tape, CHAIN_LEVEL, around + 1);
                tape.takeSign(')');
            } else {
                add(fact == 0 ? tape.number : fact);
                tape.next();
            }
        }

        private static int factAt(Tape tape) {
            if (tape.isWord("wet")) {
                return WET;
            }
            if (tape.isWord("deep")) {
                return DEEP;
            }
            if (tape.isWord("bite")) {
                return BITE;
            }
            return tape.isWord("thin") ? THIN : 0;
        }

        boolean holds(int wet, int deep, int bite, int thin) {
            int top = 0;
            for (int i = 0; i < length; i++) {
                int step = steps[i];
                if (step >= THIN) {
                    if (top >= STACK) {
                        return false;
                    }
                    stack[top] = step >= 0 ? step : step == WET ? wet : step == DEEP ? deep : step == BITE ? bite : thin;
                    top++;
                } else if (step == NOT) {
                    if (top < 1) {
                        return false;
                    }
                    stack[top - 1] = stack[top - 1] == 0 ? 1 : 0;
                } else {
                    if (top < 2) {
                        return false;
                    }
                    top--;
                    stack[top - 1] = joined(step, stack[top - 1], stack[top]);
                }
            }
            return top == 1 && stack[0] != 0;
        }

        private static int joined(int joint, int left, int right) {
            switch (joint) {
                case AND:
                    return left != 0 && right != 0 ? 1 : 0;
                case OR:
                    return left != 0 || right != 0 ? 1 : 0;
                case LESS:
                    return left < right ? 1 : 0;
                case EQUAL:
                    return left == right ? 1 : 0;
                case PLUS:
                    return left + right;
                case MINUS:
                    return left - right;
                default:
                    return left * right;
            }
        }
    }

    /** The LIBRARY as told. */
    private static final class Library {
        static final int PSALM = 1;
        static final int RECIPE = 2;
        static final int OATH = 3;
        private static final int MOST_THICK = 30;
        private static final int MOST_DAMPS = 12;

        int skins;
        private final long[] skinNames = new long[MOST_SKINS];
        final int[] lines = new int[MOST_SKINS];
        final int[] thick = new int[MOST_SKINS];
        final int[] holes = new int[MOST_SKINS];
        int texts;
        private final long[] textNames = new long[MOST_TEXTS];
        final int[] kinds = new int[MOST_TEXTS];
        final int[] galls = new int[MOST_TEXTS];
        final int[] textLines = new int[MOST_TEXTS];
        int damps;
        private final int[] damp = new int[MOST_DAMPS];
        private final Law law = new Law();

        void copyFrom(Library other) {
            skins = other.skins;
            System.arraycopy(other.skinNames, 0, skinNames, 0, MOST_SKINS);
            System.arraycopy(other.lines, 0, lines, 0, MOST_SKINS);
            System.arraycopy(other.thick, 0, thick, 0, MOST_SKINS);
            System.arraycopy(other.holes, 0, holes, 0, MOST_SKINS);
            texts = other.texts;
            System.arraycopy(other.textNames, 0, textNames, 0, MOST_TEXTS);
            System.arraycopy(other.kinds, 0, kinds, 0, MOST_TEXTS);
            System.arraycopy(other.galls, 0, galls, 0, MOST_TEXTS);
            System.arraycopy(other.textLines, 0, textLines, 0, MOST_TEXTS);
            damps = other.damps;
            System.arraycopy(other.damp, 0, damp, 0, MOST_DAMPS);
            law.copyFrom(other.law);
        }

        /** Answers the FAULT, 0 if there is none. */
        int readFrom(Tape tape) {
            skins = 0;
            texts = 0;
            damps = 0;
            law.setUntold();
            tape.rewind();
            for (int i = 0; i < Tape.SIZE && tape.isSound() && !tape.isAtEnd(); i++) {
                if (tape.isWord("skin")) {
                    readSkin(tape);
                } else if (tape.isWord("hole")) {
                    readHole(tape);
                } else if (tape.isWord("text")) {
                    readText(tape);
                } else if (tape.isWord("damp")) {
                    readDamp(tape);
                } else if (tape.isWord("shows")) {
                    law.readFrom(tape);
                } else {
                    tape.fail(Tape.MISPLACED);
                }
            }
            return tape.fault;
        }

        private void readSkin(Tape tape) {
            if (skins >= MOST_SKINS) {
                tape.fail(Tape.TOO_MANY);
                return;
            }
            tape.next();
            skinNames[skins] = takeNewName(tape);
            tape.takeWord("lines");
            lines[skins] = tape.takeNumber(1, MOST_LINES);
            tape.takeWord("thick");
            thick[skins] = tape.takeNumber(1, MOST_THICK);
            holes[skins] = 0;
            tape.takeSign(';');
            skins++;
        }

        private void readHole(Tape tape) {
            tape.next();
            int skin = takeSkin(tape);
            if (skin == NONE || !tape.isNumberWithin(0, lines[skin] - 1)) {
                return;
            }
            int hole = 1 << tape.number;
            if ((holes[skin] & hole) != 0) {
                tape.fail(Tape.TOLD_ALREADY);
                return;
            }
            holes[skin] |= hole;
            tape.next();
            tape.takeSign(';');
        }

        private void readText(Tape tape) {
            if (texts >= MOST_TEXTS) {
                tape.fail(Tape.TOO_MANY);
                return;
            }
            tape.next();
            textNames[texts] = takeNewName(tape);
            kinds[texts] = takeKind(tape);
            galls[texts] = takeInk(tape);
            tape.takeWord("lines");
            textLines[texts] = tape.takeNumber(1, MOST_LINES);
            tape.takeSign(';');
            texts++;
        }

        private static int takeKind(Tape tape) {
            int kind = 0;
            if (tape.isWord("psalm")) {
                kind = PSALM;
            } else if (tape.isWord("recipe")) {
                kind = RECIPE;
            } else if (tape.isWord("oath")) {
                kind = OATH;
            } else if (!tape.isWord("charter")) {
                tape.fail(Tape.MISPLACED);
            }
            tape.next();
            return kind;
        }

        private static int takeInk(Tape tape) {
            boolean gall = tape.isWord("gall");
            if (!gall && !tape.isWord("soot")) {
                tape.fail(Tape.MISPLACED);
            }
            tape.next();
            return gall ? 1 : 0;
        }

        private void readDamp(Tape tape) {
            if (damps > 0) {
                tape.fail(Tape.TOLD_ALREADY);
                return;
            }
            tape.next();
            for (int i = 0; i < MOST_DAMPS && tape.isSound() && (i == 0 || tape.isNumber()); i++) {
                damp[i] = tape.takeNumber(0, MOST_DAMP);
                damps = i + 1;
            }
            if (tape.isNumber() && tape.isNumberWithin(0, MOST_DAMP)) {
                tape.fail(Tape.TOO_MANY);
            }
            tape.takeSign(';');
        }

        private long takeNewName(Tape tape) {
            long name = tape.name;
            if (!tape.isName()) {
                tape.fail(Tape.MISPLACED);
            } else if (indexOf(name, skinNames, skins) != NONE || indexOf(name, textNames, texts) != NONE) {
                tape.fail(Tape.TOLD_ALREADY);
            }
            tape.next();
            return name;
        }

        int takeSkin(Tape tape) {
            return takeTold(tape, skinNames, skins);
        }

        int takeText(Tape tape) {
            return takeTold(tape, textNames, texts);
        }

        /** Answers NONE at a FAULT. */
        private static int takeTold(Tape tape, long[] names, int count) {
            int index = NONE;
            if (!tape.isName()) {
                tape.fail(Tape.MISPLACED);
            } else {
                index = indexOf(tape.name, names, count);
                if (index == NONE) {
                    tape.fail(Tape.UNKNOWN);
                }
            }
            tape.next();
            return tape.isSound() ? index : NONE;
        }

        private static int indexOf(long name, long[] names, int count) {
            for (int i = 0; i < count && i < names.length; i++) {
                if (names[i] == name) {
                    return i;
                }
            }
            return NONE;
        }

        boolean hasSkin(int skin) {
            return skin >= 0 && skin < skins;
        }

        boolean hasLine(int skin, int line) {
            return hasSkin(skin) && line >= 0 && line < lines[skin];
        }

        boolean hasText(int text) {
            return text >= 0 && text < texts;
        }

        int dampOf(int week) {
            return damps > 0 && week >= 0 ? damp[week % damps] : 0;
        }

        boolean showsText(int text, int deep, int dampNow, int thin) {
            int kind = kinds[text];
            int wet = kind == PSALM ? dampNow + 1 : dampNow;
            return law.holds(wet, kind == RECIPE ? deep - 1 : deep, galls[text], thin);
        }

        int howManyShow(int ofTexts, int deep, int dampNow, int thin) {
            int showing = 0;
            for (int text = 0; text < texts; text++) {
                if ((ofTexts >> text & 1) != 0 && showsText(text, deep, dampNow, thin)) {
                    showing++;
                }
            }
            return showing;
        }
    }

    /** A YEAR: its lines, each as one number. */
    private static final class Year {
        static final int WRITE = 0;
        static final int SCRAPE = 1;
        static final int THIRD = 2;
        static final int WEEK = 3;
        private static final int MOST_PLANNED = 40;

        int count;
        // 1000 * what is done + 100 * the TEXT + 10 * the SKIN + the line
        final int[] lines = new int[MOST_PLANNED];

        void clear() {
            count = 0;
        }

        void copyFrom(Year other) {
            count = other.count;
            System.arraycopy(other.lines, 0, lines, 0, MOST_PLANNED);
        }

        /** Answers the FAULT, 0 if there is none. */
        int readFrom(Tape tape, Library library) {
            count = 0;
            tape.rewind();
            for (int i = 0; i <= MOST_PLANNED && tape.isSound() && !tape.isAtEnd(); i++) {
                readOne(tape, library);
            }
            return tape.fault;
        }

        private void readOne(Tape tape, Library library) {
            int act = actAt(tape);
            if (act == NONE) {
                tape.fail(Tape.MISPLACED);
                return;
            }
            if (count >= MOST_PLANNED) {
                tape.fail(Tape.TOO_MANY);
                return;
            }
            tape.next();
            int told = 1000 * act;
            if (act == WRITE) {
                told += 100 * library.takeText(tape);
            }
            if (act != WEEK) {
                told += 10 * library.takeSkin(tape);
            }
            if (act == WRITE) {
                told += tape.takeNumber(0, MOST_LINES - 1);
            }
            tape.takeSign(';');
            lines[count] = told;
            count++;
        }

        private static int actAt(Tape tape) {
            if (tape.isWord("write")) {
                return WRITE;
            }
            if (tape.isWord("scrape")) {
                return SCRAPE;
            }
            if (tape.isWord("third")) {
                return THIRD;
            }
            return tape.isWord("week") ? WEEK : NONE;
        }
    }

    /** How it is: the week, how thick the SKINS are, and what lies on every line (line + 6 * the SKIN). */
    private static final class Shelf {
        private static final int LAYER_BITS = 3;

        private final Library told;
        int week;
        final int[] thick = new int[MOST_SKINS];
        final int[] open = new int[MOST_SKINS];
        final int[] heights = new int[PLACES];
        // The LAYERS of a line, the lowest one in the lowest bits.
        private final int[] piles = new int[PLACES];

        Shelf(Library told) {
            this.told = told;
        }

        void begin() {
            week = 0;
            for (int skin = 0; skin < MOST_SKINS; skin++) {
                strip(skin);
                thick[skin] = skin < told.skins ? told.thick[skin] : 0;
            }
        }

        private void strip(int skin) {
            open[skin] = 0;
            for (int place = MOST_LINES * skin; place < MOST_LINES * skin + MOST_LINES; place++) {
                heights[place] = 0;
                piles[place] = 0;
            }
        }

        void copyFrom(Shelf other) {
            week = other.week;
            System.arraycopy(other.thick, 0, thick, 0, MOST_SKINS);
            System.arraycopy(other.open, 0, open, 0, MOST_SKINS);
            System.arraycopy(other.heights, 0, heights, 0, PLACES);
            System.arraycopy(other.piles, 0, piles, 0, PLACES);
        }

        int damp() {
            return told.dampOf(week);
        }

        int layerAt(int place, int i) {
            return piles[place] >> (LAYER_BITS * i) & 7;
        }

        /** The lines of a SKIN on which one can write now, as bits. */
        private int freeLinesOf(int skin) {
            int free = 0;
            for (int line = 0; line < told.lines[skin] && thick[skin] > 0; line++) {
                if (heights[MOST_LINES * skin + line] < MOST_LAYERS) {
                    free |= 1 << line;
                }
            }
            return free & ~told.holes[skin] & ~open[skin];
        }

        int freeLines() {
            int free = 0;
            for (int skin = 0; skin < told.skins; skin++) {
                free |= freeLinesOf(skin) << (MOST_LINES * skin);
            }
            return free;
        }

        boolean canWrite(int text, int skin, int line) {
            if (line < 0 || line > told.lines[skin] - told.textLines[text]) {
                return false;
            }
            int wanted = ((1 << told.textLines[text]) - 1) << line;
            return (wanted & ~freeLinesOf(skin)) == 0;
        }

        int firstPlace(int text, int skin) {
            for (int line = 0; line < told.lines[skin]; line++) {
                if (canWrite(text, skin, line)) {
                    return line;
                }
            }
            return NONE;
        }

        /** To be called only where canWrite holds. */
        void put(int text, int skin, int line) {
            for (int i = line; i < line + told.textLines[text] && i < MOST_LINES; i++) {
                int place = MOST_LINES * skin + i;
                piles[place] |= text << (LAYER_BITS * heights[place]);
                heights[place]++;
                open[skin] |= 1 << i;
            }
        }

        boolean canRub(int skin, int lines) {
            return (open[skin] & lines) != 0;
        }

        /** Scrapes those of some lines that lie open. */
        boolean rub(int skin, int lines) {
            int rubbed = open[skin] & lines;
            if (rubbed == 0) {
                return false;
            }
            thick[skin] = Math.max(0, thick[skin] - wearOf(skin, rubbed));
            open[skin] &= ~rubbed;
            if (thick[skin] == 0) {
                strip(skin);
            }
            return true;
        }

        private int wearOf(int skin, int rubbed) {
            int gall = 0;
            int oath = 0;
            for (int line = 0; line < MOST_LINES; line++) {
                int place = MOST_LINES * skin + line;
                if ((rubbed >> line & 1) != 0 && heights[place] > 0) {
                    int text = layerAt(place, heights[place] - 1);
                    gall |= told.galls[text];
                    oath |= told.kinds[text] == Library.OATH ? 1 : 0;
                }
            }
            return 1 + gall + oath;
        }

        /** Does one line of a YEAR, if it can be. */
        boolean follow(int planned) {
            int act = planned / 1000;
            int skin = planned / 10 % 10;
            if (act == Year.WEEK) {
                week++;
                return true;
            }
            if (!told.hasSkin(skin)) {
                return false;
            }
            if (act == Year.WRITE) {
                int text = planned / 100 % 10;
                return told.hasText(text) && writeIfCan(text, skin, planned % 10);
            }
            return rub(skin, act == Year.SCRAPE ? ALL_LINES : THIRD_LINES);
        }

        private boolean writeIfCan(int text, int skin, int line) {
            if (!canWrite(text, skin, line)) {
                return false;
            }
            put(text, skin, line);
            return true;
        }

        /** What is done in one week of YEARS by draws: true if a TEXT was WRITTEN. */
        boolean liveByDraws(Draws draws) {
            int text = draws.below(told.texts);
            int skin = draws.below(told.skins);
            int line = draws.below(MOST_LINES);
            if (writeIfCan(text, skin, line)) {
                return true;
            }
            int rubbing = draws.below(3);
            if (rubbing < 2) {
                rub(skin, rubbing == 0 ? ALL_LINES : THIRD_LINES);
            }
            return false;
        }

        /** What is READ in a line by a damp. */
        int shown(int skin, int line, int damp) {
            int place = MOST_LINES * skin + line;
            int height = heights[place];
            if (height > 0 && (open[skin] >> line & 1) != 0) {
                return layerAt(place, height - 1);
            }
            for (int deep = 1; deep <= height; deep++) {
                int text = layerAt(place, height - deep);
                if (told.showsText(text, deep, damp, thick[skin])) {
                    return text;
                }
            }
            return NONE;
        }

        int shownLines(int skin, int damp) {
            int lines = 0;
            for (int line = 0; line < told.lines[skin]; line++) {
                if (shown(skin, line, damp) != NONE) {
                    lines |= 1 << line;
                }
            }
            return lines;
        }

        int shownTexts(int damp) {
            int texts = 0;
            for (int skin = 0; skin < told.skins; skin++) {
                for (int line = 0; line < told.lines[skin]; line++) {
                    int text = shown(skin, line, damp);
                    texts |= text == NONE ? 0 : 1 << text;
                }
            }
            return texts;
        }

        int made(int text, int damp) {
            int lines = 0;
            for (int skin = 0; skin < told.skins; skin++) {
                for (int line = 0; line < told.lines[skin]; line++) {
                    if (shown(skin, line, damp) == text) {
                        lines++;
                    }
                }
            }
            return lines;
        }

        boolean isWhole(int text, int damp) {
            return (wholeTexts(damp) >> text & 1) != 0;
        }

        int wholeTexts(int damp) {
            int whole = 0;
            for (int skin = 0; skin < told.skins; skin++) {
                int before = NONE;
                int behindAnother = 0;
                for (int line = 0; line < told.lines[skin]; line++) {
                    int text = shown(skin, line, damp);
                    behindAnother = text == before ? behindAnother + 1 : 1;
                    before = text;
                    if (text != NONE && behindAnother >= told.textLines[text]) {
                        whole |= 1 << text;
                    }
                }
            }
            return whole;
        }

        int textsLaid() {
            int texts = 0;
            for (int place = 0; place < PLACES; place++) {
                for (int i = 0; i < heights[place]; i++) {
                    texts |= 1 << layerAt(place, i);
                }
            }
            return texts;
        }

        int textsOver(int text) {
            int over = 0;
            for (int place = 0; place < PLACES; place++) {
                boolean met = false;
                for (int i = 0; i < heights[place]; i++) {
                    int upper = layerAt(place, i);
                    over |= met ? 1 << upper : 0;
                    met |= upper == text;
                }
            }
            return over;
        }

        int pairsAlike() {
            int pairs = 0;
            for (int place = 0; place < PLACES; place++) {
                for (int other = 0; other < place; other++) {
                    if (heights[place] > 0 && heights[place] == heights[other] && piles[place] == piles[other]) {
                        pairs++;
                    }
                }
            }
            return pairs;
        }

        int layersTogether() {
            int sum = 0;
            for (int place = 0; place < PLACES; place++) {
                sum += heights[place];
            }
            return sum;
        }

        int thickTogether() {
            int sum = 0;
            for (int skin = 0; skin < told.skins; skin++) {
                sum += thick[skin];
            }
            return sum;
        }

        int goneSkins() {
            int gone = 0;
            for (int skin = 0; skin < told.skins; skin++) {
                gone |= thick[skin] == 0 ? 1 << skin : 0;
            }
            return gone;
        }
    }

    /** What was SEEN of the unknown TEXT. */
    private static final class Seen {
        private static final int MOST_SEEN = 8;

        int count;
        private final int[] skins = new int[MOST_SEEN];
        private final int[] deeps = new int[MOST_SEEN];
        private final int[] damps = new int[MOST_SEEN];
        private final int[] showing = new int[MOST_SEEN];

        void clear() {
            count = 0;
        }

        void copyFrom(Seen other) {
            count = other.count;
            System.arraycopy(other.skins, 0, skins, 0, MOST_SEEN);
            System.arraycopy(other.deeps, 0, deeps, 0, MOST_SEEN);
            System.arraycopy(other.damps, 0, damps, 0, MOST_SEEN);
            System.arraycopy(other.showing, 0, showing, 0, MOST_SEEN);
        }

        boolean add(int skin, int deep, int damp, boolean shows) {
            if (count >= MOST_SEEN) {
                return false;
            }
            skins[count] = skin;
            deeps[count] = deep;
            damps[count] = damp;
            showing[count] = shows ? 1 : 0;
            count++;
            return true;
        }

        boolean agrees(int text, Library told, Shelf now) {
            for (int i = 0; i < count; i++) {
                boolean shows = told.showsText(text, deeps[i], damps[i], now.thick[skins[i]]);
                if (shows != (showing[i] == 1)) {
                    return false;
                }
            }
            return true;
        }
    }

    /** How it was ahead of each of the last deeds. */
    private static final class Undoing {
        private static final int MOST_KEPT = 16;

        int kept;
        private int next;
        private final Shelf[] ahead = new Shelf[MOST_KEPT];

        Undoing(Library told) {
            for (int i = 0; i < MOST_KEPT; i++) {
                ahead[i] = new Shelf(told);
            }
        }

        void clear() {
            kept = 0;
        }

        void keep(Shelf now) {
            ahead[next].copyFrom(now);
            next = (next + 1) % MOST_KEPT;
            kept = Math.min(kept + 1, MOST_KEPT);
        }

        boolean takeBack(Shelf now) {
            if (kept == 0) {
                return false;
            }
            kept--;
            next = (next + MOST_KEPT - 1) % MOST_KEPT;
            now.copyFrom(ahead[next]);
            return true;
        }
    }

    /** One MARK. */
    private static final class Bookmark {
        boolean laid;
        final Shelf shelf;
        final Year plan = new Year();
        final Seen seen = new Seen();

        Bookmark(Library told) {
            shelf = new Shelf(told);
        }

        void keep(Shelf now, Year planNow, Seen seenNow) {
            shelf.copyFrom(now);
            plan.copyFrom(planNow);
            seen.copyFrom(seenNow);
            laid = true;
        }
    }

    /** LAY: where the most TEXTS can be WRITTEN side by side. */
    private static final class Layout {
        private final Library told;
        int most;
        final int[] places = new int[MOST_TEXTS];
        // The lines to be laid, the longest TEXT first, and how long the free stretches are.
        private final int[] sizes = new int[MOST_TEXTS];
        private int wanted;
        private final int[] stretches = new int[PLACES];
        private int stretchCount;

        Layout(Library told) {
            this.told = told;
        }

        void find(int freeLines) {
            int free = freeLines;
            most = told.texts;
            while (most > 0 && !canLay(most, 0, free)) {
                most--;
            }
            int left = most;
            for (int text = 0; text < told.texts; text++) {
                places[text] = left > 0 ? firstPlaceLeaving(left - 1, text, free) : NONE;
                if (places[text] != NONE) {
                    free &= ~linesOf(text, places[text]);
                    left--;
                }
            }
        }

        private int linesOf(int text, int place) {
            return ((1 << told.textLines[text]) - 1) << place;
        }

        /** The first place of a TEXT beside which so many of the TEXTS behind it can be laid. */
        private int firstPlaceLeaving(int others, int text, int free) {
            for (int place = 0; place < PLACES; place++) {
                int lines = linesOf(text, place);
                boolean onOneSkin = place % MOST_LINES + told.textLines[text] <= MOST_LINES;
                if (onOneSkin && (lines & ~free) == 0 && canLay(others, text + 1, free & ~lines)) {
                    return place;
                }
            }
            return NONE;
        }

        private boolean canLay(int howMany, int firstText, int free) {
            gatherShortest(howMany, firstText);
            if (wanted < howMany) {
                return false;
            }
            gatherStretches(free);
            return fill(0);
        }

        /** If any so many TEXTS can be laid, the shortest ones can. */
        private void gatherShortest(int howMany, int firstText) {
            wanted = 0;
            for (int size = 1; size <= MOST_LINES; size++) {
                for (int text = firstText; text < told.texts && wanted < howMany; text++) {
                    if (told.textLines[text] == size) {
                        sizes[wanted] = size;
                        wanted++;
                    }
                }
            }
        }

        private void gatherStretches(int free) {
            stretchCount = 0;
            int length = 0;
            for (int place = 0; place < PLACES; place++) {
                length = (free >> place & 1) != 0 ? length + 1 : 0;
                boolean lastOfSkin = place % MOST_LINES == MOST_LINES - 1;
                boolean ends = lastOfSkin || (free >> (place + 1) & 1) == 0;
                if (length > 0 && ends) {
                    stretches[stretchCount] = length;
                    stretchCount++;
                    length = 0;
                }
            }
        }

        /** Lays the TEXTS from the longest on (so many are laid) into the stretches that are left. */
        private boolean fill(int laid) {
            if (laid >= wanted || laid >= MOST_TEXTS) {
                return true;
            }
            int size = sizes[wanted - 1 - laid];
            int triedLengths = 0;
            for (int i = 0; i < stretchCount; i++) {
                int length = stretches[i];
                boolean tried = (triedLengths >> length & 1) != 0;
                if (length >= size && !tried) {
                    triedLengths |= 1 << length;
                    stretches[i] = length - size;
                    boolean filled = fill(laid + 1);
                    stretches[i] = length;
                    if (filled) {
                        return true;
                    }
                }
            }
            return false;
        }
    }

    /** The DRAWS of a SEED. */
    private static final class Draws {
        private long g;

        void start(int seed) {
            g = seed;
        }

        int below(int m) {
            g = (g * 1103515245L + 12345L) & 2147483647L;
            return m > 0 ? (int) (g / 65536L % m) : 0;
        }
    }
}
