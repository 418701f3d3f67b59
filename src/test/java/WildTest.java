import java.util.Random;

/** Any arguments in any state: no call throws but rests, and that one only NoSuchElementException. */
public final class WildTest {
    private static final int RUNS = 400;
    private static final int CALLS = 500;
    private static final int[] EDGES = {Integer.MIN_VALUE, Integer.MIN_VALUE + 1, -100, -7, -3, -2, -1, 0, 1, 2, 3, 4, 5,
        6, 7, 8, 9, 10, 11, 12, 16, 17, 18, 31, 32, 33, 40, 41, 99, 100, 1000, 9999, 10000, 65536,
        Integer.MAX_VALUE - 1, Integer.MAX_VALUE};
    private static final String[] PIECES = {"skin ", "a ", "b ", "lines ", "thick ", "hole ", "text ", "charter ",
        "psalm ", "recipe ", "oath ", "gall ", "soot ", "damp ", "shows ", "write ", "scrape ", "third ", "week", ";", ";",
        "(", ")", "<", "=", "+", "-", "*", "1 ", "2 ", "6 ", "30 ", "9999 ", "12345 ", "not ", "and ", "or ", "wet ",
        "deep ", "bite ", "thin ", "toolongaword ", "skin c lines 6 thick 30;", "text d oath gall lines 2;",
        "shows ((((((((", "shows not not not not not not ", "week;", "scrape c;", "write d c 0;"};

    private final Random random;

    private WildTest(long seed) {
        random = new Random(seed);
    }

    public static void main(String[] args) {
        Check check = new Check();
        for (int run = 0; run < RUNS; run++) {
            WildTest test = new WildTest(run);
            String thrown = "";
            try {
                test.go();
            } catch (RuntimeException wild) {
                thrown = wild.toString();
            }
            check.due("run " + run + " threw " + thrown, true, thrown.isEmpty());
        }
        check.end("WildTest");
    }

    private int any() {
        return random.nextInt(3) == 0 ? EDGES[random.nextInt(EDGES.length)] : random.nextInt(6);
    }

    private boolean coin() {
        return random.nextBoolean();
    }

    private void go() {
        WornSkin x = new WornSkin();
        if (coin()) {
            Check.readLibrary(x, "skin a lines 6 thick 30;skin b lines 3 thick 8;skin c lines 6 thick 30;hole c 2;"
                + "text ta charter gall lines 2;text tb psalm soot lines 1;text tc recipe soot lines 6;"
                + "text d oath gall lines 3;damp 0 4 9;" + (coin() ? "shows wet-deep;" : ""));
        }
        for (int i = 0; i < CALLS; i++) {
            change(x);
            look(x);
            count(x);
        }
    }

    private void change(WornSkin x) {
        switch (random.nextInt(10)) {
            case 0: x.feed(random.nextLong(), random.nextLong(), random.nextLong()); break;
            case 1: Check.feed(x, PIECES[random.nextInt(PIECES.length)]); break;
            case 2: x.write(any(), any(), any()); break;
            case 3: x.scrape(any()); break;
            case 4: x.third(any()); break;
            case 5: x.week(); break;
            case 6: x.undo(); break;
            case 7: x.see(any(), any(), any(), coin()); break;
            case 8: x.mark(any(), coin()); break;
            default:
                if (random.nextInt(12) == 0) {
                    x.library();
                } else if (random.nextInt(12) == 0) {
                    x.year();
                }
                break;
        }
    }

    private void look(WornSkin x) {
        switch (random.nextInt(20)) {
            case 0: x.skin(any(), any()); break;
            case 1: x.text(any(), any()); break;
            case 2: x.layers(any(), any()); break;
            case 3: x.layer(any(), any(), any()); break;
            case 4: x.read(any(), any()); break;
            case 5: x.judged(any()); break;
            case 6: x.later(any(), any(), any()); break;
            case 7: x.when(any()); break;
            case 8: x.need(any()); break;
            case 9: x.lost(); break;
            case 10: x.place(any(), any()); break;
            case 11: x.cost(any(), any()); break;
            case 12: x.lay(any()); break;
            case 13: x.bears(any(), any()); break;
            case 14: x.over(any()); break;
            case 15: x.deepest(any()); break;
            case 16: x.bare(any()); break;
            case 17: x.same(); break;
            case 18: x.giveup(); break;
            default: x.psalter(any()); break;
        }
    }

    private void count(WornSkin x) {
        switch (random.nextInt(6)) {
            case 0: x.who(); break;
            case 1: x.ask(any()); break;
            case 2: x.chance(any(), any(), any()); break;
            case 3: Check.rests(x, any(), any(), any(), any()); break;
            case 4: x.years(any(), any(), any()); break;
            default: x.count(any()); break;
        }
    }
}
