import java.util.Arrays;
import java.util.List;

/**
 * Objects of 512 calls each, in any order and with any arguments, right and wrong ones: each call answers, or throws,
 * just what the document says by the model. The model is not changed by a call that throws or asks.
 */
public final class AnyCallTest {
    private static final int NONE = -1;
    private static final int CALLS = 512;
    private static final String INDEX = "throws.IndexOutOfBoundsException";
    private static final String ARGUMENT = "throws.IllegalArgumentException";
    private static final String STATE = "throws.IllegalStateException";
    private static final int[] FAR = {Integer.MIN_VALUE, Integer.MIN_VALUE + 1, -4096, -80, -33, -2, 31, 32, 61, 64, 81,
        4096, 65536, Integer.MAX_VALUE - 1, Integer.MAX_VALUE};

    private final Check check = new Check("AnyCallTest");
    private final int[] thrown = new int[3];
    private long seed;
    private Tablature x;
    private Model m;

    public static void main(String[] args) {
        AnyCallTest test = new AnyCallTest();
        for (int run = 0; run < 120; run++) {
            test.runOnce(run);
        }
        for (int count : test.thrown) {
            test.check.same("each exception was due often", String.valueOf(count > 500), "true");
        }
        test.check.end();
    }

    private int draw(int from, int to) {
        seed = seed * 6364136223846793005L + 1442695040888963407L;
        return from + (int) ((seed >>> 33) % (to - from + 1));
    }

    /** Mostly one of these, now and then one just outside, seldom one far outside. */
    private int within(int first, int last) {
        int dice = draw(0, 39);
        return dice == 0 ? FAR[draw(0, FAR.length - 1)]
                : dice == 1 ? first - 1 : dice == 2 ? last + 1 : draw(first, Math.max(first, last));
    }

    private void runOnce(int run) {
        seed = 7919L * run + 3;
        x = new Tablature();
        m = new Model();
        int base = draw(0, 48);
        int spread = run % 3 == 0 ? 0 : draw(1, 12);
        for (int call = 1; call <= CALLS; call++) {
            // the first calls build something, on which the others then work
            boolean isDrawn = call <= 40 && draw(0, 2) > 0;
            one("run " + run + ", call " + call, isDrawn ? call <= 10 ? 0 : 6 : draw(0, 31), base, spread);
        }
    }

    private void compare(String told, String due, Check.Call call) {
        thrown[0] += due.equals(INDEX) ? 1 : 0;
        thrown[1] += due.equals(ARGUMENT) ? 1 : 0;
        thrown[2] += due.equals(STATE) ? 1 : 0;
        check.same(told, Check.answerOf(call), due);
    }

    private void one(String told, int which, int base, int spread) {
        int s = within(0, m.opens.size() - 1);
        int c = within(0, m.chords.size() - 1);
        int g = within(0, isChord(c) ? m.grips(c).size() - 1 : 0);
        switch (which) {
            case 0: string(told, within(base, Math.min(60, base + spread))); break;
            case 1: tune(told, s, draw(0, 2) == 0 ? within(0, 60) : within(base, Math.min(60, base + spread))); break;
            case 2: slacken(told, s, draw(0, 2) == 0); break;
            case 3: capo(told, draw(0, 1) == 0 ? 0 : within(0, 7)); break;
            case 4: reach(told, within(1, 6)); break;
            case 5: fretOf(told, s, draw(0, 1) == 0 ? within(0, 80) : within(base, base + 12)); break;
            case 6: case 7: case 8: chord(told, base, spread); break;
            case 9: strike(told, c); break;
            case 10: case 11: fix(told, c, draw(0, 5) == 0 ? NONE : g); break;
            case 12: ofChord(told, c, within(0, 5)); break;
            case 13: case 14: ofGrip(told, c, g, within(0, 5)); break;
            case 15: case 16: onString(told, c, g, s); break;
            case 17: case 18: move(told, c, g, within(0, isChord(c + 1) ? m.grips(c + 1).size() - 1 : 0)); break;
            case 19: plan(told, c); break;
            case 20: compare(told + ": total", "" + m.total(), () -> x.total()); break;
            case 21: compare(told + ": hardest", "" + m.hardest(), () -> x.hardest()); break;
            case 22: many(told, within(0, 7)); break;
            case 23: check.dueDouble(told + ": meanEffort", m.meanEffort(), () -> x.meanEffort()); break;
            case 24: case 25: case 26: voicing(told, which - 24, s, within(1, 9)); break;
            case 27: totalWith(told, within(0, 7), within(1, 6)); break;
            case 28: compare(told + ": bestCapo", "" + m.bestCapo(), () -> x.bestCapo()); break;
            case 29: compare(told + ": totalWithout " + s, isString(s) ? "" + m.totalWithout(s) : INDEX,
                    () -> x.totalWithout(s)); break;
            case 30: compare(told + ": totalFixed " + c + " " + g, isGrip(c, g) ? "" + m.totalFixed(c, g) : INDEX,
                    () -> x.totalFixed(c, g)); break;
            default: compare(told + ": digest", "" + m.digest(), () -> x.digest());
        }
    }

    private boolean isString(int s) {
        return s >= 0 && s < m.opens.size();
    }

    private boolean isChord(int c) {
        return c >= 0 && c < m.chords.size();
    }

    private boolean isGrip(int c, int g) {
        return isChord(c) && g >= 0 && g < m.grips(c).size();
    }

    private static boolean isWithin(int v, int first, int last) {
        return v >= first && v <= last;
    }

    private void string(String told, int open) {
        String due = "" + m.opens.size();
        if (!isWithin(open, 0, 60)) {
            due = ARGUMENT;
        } else if (m.opens.size() == 6) {
            due = STATE;
        } else {
            m.opens.add(open);
            m.slacks.add(false);
        }
        compare(told + ": string " + open, due, () -> x.string(open));
    }

    private void tune(String told, int s, int open) {
        String due = !isString(s) ? INDEX : !isWithin(open, 0, 60) ? ARGUMENT : "" + m.opens.set(s, open);
        compare(told + ": tune " + s + " " + open, due, () -> x.tune(s, open));
    }

    private void slacken(String told, int s, boolean isSlack) {
        String due = INDEX;
        if (isString(s)) {
            m.slacks.set(s, isSlack);
            due = "" + (m.opens.size() - m.many(1));
        }
        compare(told + ": slacken " + s + " " + isSlack, due, () -> x.slacken(s, isSlack));
    }

    private void capo(String told, int capo) {
        String due = ARGUMENT;
        if (isWithin(capo, 0, 7)) {
            due = "" + m.capo;
            m.capo = capo;
        }
        compare(told + ": capo " + capo, due, () -> x.capo(capo));
    }

    private void reach(String told, int reach) {
        String due = ARGUMENT;
        if (isWithin(reach, 1, 6)) {
            due = "" + m.reach;
            m.reach = reach;
        }
        compare(told + ": reach " + reach, due, () -> x.reach(reach));
    }

    private void fretOf(String told, int s, int pitch) {
        String due = !isString(s) ? INDEX : !isWithin(pitch, 0, 80) ? ARGUMENT : "" + m.fretOf(s, pitch);
        compare(told + ": fretOf " + s + " " + pitch, due, () -> x.fretOf(s, pitch));
    }

    private void chord(String told, int base, int spread) {
        int[] p = new int[4];
        for (int k = 0; k < 4; k++) {
            p[k] = k > 0 && draw(0, 2) == 0 ? NONE : within(base, Math.min(80, base + spread + 4));
        }
        int length = draw(0, 2) == 0 ? 1 : within(1, 8);
        int[] used = Arrays.stream(p).filter(v -> v != NONE).toArray();
        boolean isWrong = p[0] == NONE || !isWithin(length, 1, 8) || Arrays.stream(used).distinct().count() < used.length
                || Arrays.stream(used).anyMatch(v -> !isWithin(v, 0, 80));
        String due = "" + m.chords.size();
        if (isWrong) {
            due = ARGUMENT;
        } else if (m.chords.size() == 12) {
            due = STATE;
        } else {
            Model.Written w = new Model.Written();
            w.pitches = used;
            w.length = length;
            m.chords.add(w);
        }
        compare(told + ": chord " + Arrays.toString(p) + " " + length, due,
                () -> x.chord(p[0], p[1], p[2], p[3], length));
    }

    private void strike(String told, int c) {
        // full more often than empty
        if (isChord(c) && draw(0, 1) == 0) {
            return;
        }
        String due = INDEX;
        if (isChord(c)) {
            m.chords.remove(c);
            due = "" + m.chords.size();
        }
        compare(told + ": strike " + c, due, () -> x.strike(c));
    }

    private void fix(String told, int c, int g) {
        String due = INDEX;
        if (isChord(c) && g == NONE) {
            m.chords.get(c).fixed = null;
            due = "0";
        } else if (isGrip(c, g)) {
            m.chords.get(c).fixed = m.grips(c).get(g).clone();
            due = "" + Model.effort(m.grips(c).get(g));
        }
        compare(told + ": fix " + c + " " + g, due, () -> x.fix(c, g));
    }

    private void ofChord(String told, int c, int what) {
        String due = !isChord(c) ? INDEX : !isWithin(what, 0, 5) ? ARGUMENT : "" + m.ofChord(c, what);
        compare(told + ": ofChord " + c + " " + what, due, () -> x.ofChord(c, what));
    }

    private void ofGrip(String told, int c, int g, int what) {
        String due = !isGrip(c, g) ? INDEX : !isWithin(what, 0, 5) ? ARGUMENT : "" + Model.ofGrip(m.grips(c).get(g), what);
        compare(told + ": ofGrip " + c + " " + g + " " + what, due, () -> x.ofGrip(c, g, what));
    }

    private void onString(String told, int c, int g, int s) {
        boolean isThere = isGrip(c, g) && isString(s);
        compare(told + ": fret " + c + " " + g + " " + s, isThere ? "" + m.grips(c).get(g)[s] : INDEX,
                () -> x.fret(c, g, s));
        compare(told + ": finger " + c + " " + g + " " + s,
                isThere ? "" + Model.fingers(m.grips(c).get(g))[s] : INDEX, () -> x.finger(c, g, s));
    }

    private void move(String told, int c, int g, int next) {
        String due = INDEX;
        if (isGrip(c, g) && isGrip(c + 1, next)) {
            due = "" + m.moveOf(m.grips(c).get(g), m.grips(c + 1).get(next), m.chords.get(c).length);
        }
        compare(told + ": move " + c + " " + g + " " + next, due, () -> x.move(c, g, next));
    }

    private void plan(String told, int c) {
        Model.Path plan = m.plan();
        String due = !isChord(c) ? INDEX : "" + (plan == null ? NONE : plan.numbers[c]);
        compare(told + ": plan " + c, due, () -> x.plan(c));
    }

    private void many(String told, int what) {
        compare(told + ": many " + what, isWithin(what, 0, 7) ? "" + m.many(what) : ARGUMENT, () -> x.many(what));
    }

    private void voicing(String told, int which, int s, int from) {
        int bass = within(0, 11);
        int classes = draw(0, 9) == 0 ? within(1, 4095) : isWithin(bass, 0, 11) ? 1 << bass : 1;
        for (int k = draw(0, 3); k > 0; k--) {
            classes |= m.opens.isEmpty() ? 0 : 1 << (m.pitch(draw(0, m.opens.size() - 1), draw(0, 9)) % 12);
        }
        int set = classes;
        boolean isVoicing = isWithin(set, 1, 4095) && Integer.bitCount(set) <= 4 && isWithin(bass, 0, 11)
                && (set >> bass & 1) == 1 && isWithin(from, 1, 9);
        List<int[]> shapes = isVoicing ? m.shapes(set, bass, from) : List.of();
        int[] best = shapes.isEmpty() ? null : shapes.get(0);
        String call = told + ", " + set + " on " + bass + " from " + from + ": ";
        if (which == 0) {
            compare(call + "shapes", isVoicing ? "" + shapes.size() : ARGUMENT, () -> x.shapes(set, bass, from));
        } else if (which == 1) {
            compare(call + "shapeEffort", isVoicing ? "" + (best == null ? NONE : Model.effort(best)) : ARGUMENT,
                    () -> x.shapeEffort(set, bass, from));
        } else {
            String due = !isString(s) ? INDEX : !isVoicing ? ARGUMENT : "" + (best == null ? NONE : best[s]);
            compare(call + "shapeFret " + s, due, () -> x.shapeFret(set, bass, from, s));
        }
    }

    private void totalWith(String told, int capo, int reach) {
        boolean isRight = isWithin(capo, 0, 7) && isWithin(reach, 1, 6);
        compare(told + ": totalWith " + capo + " " + reach, isRight ? "" + m.totalWith(capo, reach) : ARGUMENT,
                () -> x.totalWith(capo, reach));
    }
}
