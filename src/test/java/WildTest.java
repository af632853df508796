/** Calls in any order with any arguments: nothing is thrown but by the document's own exceptions. */
public final class WildTest {
    private static final int[] ODD = {Integer.MIN_VALUE, -81, -2, -1, 0, 1, 2, 3, 4, 5, 6, 7, 8, 9, 10, 11, 12, 13,
        30, 31, 32, 60, 61, 80, 81, 145, 4095, 4096, Integer.MAX_VALUE};
    private static final String INDEX = "throws.IndexOutOfBoundsException";
    private static final String ARGUMENT = "throws.IllegalArgumentException";
    private static final String STATE = "throws.IllegalStateException";
    private final Check check = new Check("WildTest");
    private long seed = 7;

    public static void main(String[] args) {
        WildTest test = new WildTest();
        for (int run = 0; run < 60; run++) {
            test.runOnce();
        }
        test.check.end();
    }

    private int draw(int from, int to) {
        seed = seed * 6364136223846793005L + 1442695040888963407L;
        return from + (int) ((seed >>> 33) % (to - from + 1));
    }

    private int odd() {
        return draw(0, 3) == 0 ? ODD[draw(0, ODD.length - 1)] : draw(-1, 12);
    }

    private void runOnce() {
        Tablature x = new Tablature();
        for (int call = 0; call < 600; call++) {
            one(x, draw(0, 30), odd(), odd(), odd(), odd(), odd());
        }
    }

    private void allowed(String call, Check.Call answer, String... exceptions) {
        String got = Check.answerOf(answer);
        boolean isAllowed = !got.startsWith("throws.");
        for (String exception : exceptions) {
            isAllowed |= got.equals(exception);
        }
        check.same(call, isAllowed ? "" : got, "");
    }

    private void one(Tablature x, int which, int a, int b, int c, int d, int e) {
        switch (which) {
            case 0: allowed("string", () -> x.string(a), ARGUMENT, STATE); break;
            case 1: allowed("tune", () -> x.tune(a, b), INDEX, ARGUMENT); break;
            case 2: allowed("slacken", () -> x.slacken(a, b > 6), INDEX); break;
            case 3: allowed("capo", () -> x.capo(a), ARGUMENT); break;
            case 4: allowed("reach", () -> x.reach(a), ARGUMENT); break;
            case 5: allowed("fretOf", () -> x.fretOf(a, b), INDEX, ARGUMENT); break;
            case 6: allowed("strike", () -> x.strike(a), INDEX); break;
            case 7: allowed("fix", () -> x.fix(a, b), INDEX); break;
            case 8: allowed("ofChord", () -> x.ofChord(a, b), INDEX, ARGUMENT); break;
            case 9: allowed("ofGrip", () -> x.ofGrip(a, b, c), INDEX, ARGUMENT); break;
            case 10: allowed("fret", () -> x.fret(a, b, c), INDEX); break;
            case 11: allowed("finger", () -> x.finger(a, b, c), INDEX); break;
            case 12: allowed("move", () -> x.move(a, b, c), INDEX); break;
            case 13: allowed("plan", () -> x.plan(a), INDEX); break;
            case 14: allowed("total", () -> x.total()); break;
            case 15: allowed("hardest", () -> x.hardest()); break;
            case 16: allowed("many", () -> x.many(a), ARGUMENT); break;
            case 17: allowed("meanEffort", () -> (long) x.meanEffort()); break;
            case 18: allowed("shapes", () -> x.shapes(a, b, c), ARGUMENT); break;
            case 19: allowed("shapeEffort", () -> x.shapeEffort(a, b, c), ARGUMENT); break;
            case 20: allowed("shapeFret", () -> x.shapeFret(a, b, c, d), INDEX, ARGUMENT); break;
            case 21: allowed("totalWith", () -> x.totalWith(a, b), ARGUMENT); break;
            case 22: allowed("bestCapo", () -> x.bestCapo()); break;
            case 23: allowed("totalWithout", () -> x.totalWithout(a), INDEX); break;
            case 24: allowed("totalFixed", () -> x.totalFixed(a, b), INDEX); break;
            case 25: allowed("digest", () -> x.digest()); break;
            default: allowed("chord", () -> x.chord(a, b, c, d, e), ARGUMENT, STATE);
        }
    }
}
