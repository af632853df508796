import java.util.Arrays;
import java.util.List;

/** Long runs of calls, answered by the program and by the model; the numbers drawn are the same each time. */
public final class ModelTest {
    private static final int[] USUAL = {28, 33, 38, 43, 47, 52};
    private final Check check = new Check("ModelTest");
    private long seed;
    private int run;
    private Tablature x;
    private Model m;

    public static void main(String[] args) {
        ModelTest test = new ModelTest();
        for (int run = 0; run < 200; run++) {
            test.runOnce(run);
        }
        test.check.end();
    }

    private int draw(int from, int to) {
        seed = seed * 6364136223846793005L + 1442695040888963407L;
        return from + (int) ((seed >>> 33) % (to - from + 1));
    }

    private void runOnce(int number) {
        run = number;
        seed = 1000003L * number + 17;
        x = new Tablature();
        m = new Model();
        int flavour = number % 4;
        int strings = draw(1, 6);
        int base = draw(0, 50);
        for (int s = 0; s < strings; s++) {
            int open = flavour == 0 ? USUAL[s] : flavour == 1 ? base : flavour == 2 ? base + draw(0, 8) : draw(0, 60);
            drawString(Math.min(open, 60));
        }
        for (int step = 0; step < 60; step++) {
            change();
            ask();
        }
        long want = m.digest();
        check.due(told("digest()"), want, () -> x.digest());
    }

    private String told(String call) {
        return "run " + run + " " + m.opens + m.slacks + " capo " + m.capo + " reach " + m.reach + ": " + call;
    }

    private void drawString(int open) {
        if (m.opens.size() < 6) {
            int number = m.opens.size();
            m.opens.add(open);
            m.slacks.add(false);
            check.due(told("string"), number, () -> x.string(open));
        } else {
            check.same(told("string"), Check.answerOf(() -> x.string(open)), "throws.IllegalStateException");
        }
    }

    private void change() {
        int strings = m.opens.size();
        int s = draw(0, strings - 1);
        switch (draw(0, 13)) {
            case 0: drawString(draw(0, 3) == 0 ? draw(0, 60) : m.opens.get(s)); break;
            case 1: case 2: {
                int open = Math.max(0, Math.min(60, m.opens.get(s) + draw(-3, 3)));
                int was = m.opens.set(s, open);
                check.due(told("tune"), was, () -> x.tune(s, open));
                break;
            }
            case 3: {
                boolean slack = draw(0, 2) == 0;
                m.slacks.set(s, slack);
                check.due(told("slacken"), strings - m.many(1), () -> x.slacken(s, slack));
                break;
            }
            case 4: {
                int was = m.capo;
                m.capo = draw(0, 1) == 0 ? 0 : draw(0, 7);
                check.due(told("capo"), was, () -> x.capo(m.capo));
                break;
            }
            case 5: {
                int was = m.reach;
                m.reach = draw(1, 6);
                check.due(told("reach"), was, () -> x.reach(m.reach));
                break;
            }
            case 6: strike(); break;
            case 7: case 8: fix(); break;
            default: write();
        }
    }

    private void write() {
        int[] p = new int[4];
        int size = draw(1, 4);
        for (int k = 0; k < 4; k++) {
            int s = draw(0, m.opens.size() - 1);
            int pitch = Math.min(80, m.opens.get(s) + m.capo + draw(0, draw(0, 5) == 0 ? 12 : 6));
            p[k] = k < size ? pitch : -1;
        }
        int swap = draw(1, 3);
        int kept = p[swap];
        p[swap] = p[3];
        p[3] = kept;
        int length = draw(0, 1) == 0 ? 1 : draw(2, 8);
        int[] used = Arrays.stream(p).filter(v -> v != -1).toArray();
        Check.Call call = () -> x.chord(p[0], p[1], p[2], p[3], length);
        if (Arrays.stream(used).distinct().count() < used.length) {
            check.same(told("chord"), Check.answerOf(call), "throws.IllegalArgumentException");
        } else if (m.chords.size() == 12) {
            check.same(told("chord"), Check.answerOf(call), "throws.IllegalStateException");
        } else {
            Model.Written w = new Model.Written();
            w.pitches = used;
            w.length = length;
            m.chords.add(w);
            check.due(told("chord"), m.chords.size() - 1, call);
        }
    }

    private void strike() {
        if (!m.chords.isEmpty() && draw(0, 1) == 0) {
            int c = draw(0, m.chords.size() - 1);
            m.chords.remove(c);
            check.due(told("strike"), m.chords.size(), () -> x.strike(c));
        }
    }

    private void fix() {
        if (m.chords.isEmpty()) {
            return;
        }
        int c = draw(0, m.chords.size() - 1);
        List<int[]> grips = m.grips(c);
        int g = draw(-1, grips.size());
        if (g == grips.size()) {
            check.same(told("fix"), Check.answerOf(() -> x.fix(c, g)), "throws.IndexOutOfBoundsException");
        } else {
            m.chords.get(c).fixed = g == -1 ? null : grips.get(g).clone();
            check.due(told("fix"), g == -1 ? 0 : Model.effort(grips.get(g)), () -> x.fix(c, g));
        }
    }

    private void ask() {
        check.due(told("total"), m.total(), () -> x.total());
        int what = draw(0, 7);
        check.due(told("many " + what), m.many(what), () -> x.many(what));
        switch (draw(0, 9)) {
            case 0: check.due(told("hardest"), m.hardest(), () -> x.hardest()); break;
            case 1: check.dueDouble(told("meanEffort"), m.meanEffort(), () -> x.meanEffort()); break;
            case 2: askVoicing(); break;
            case 3: {
                int capo = draw(0, 2) == 0 ? m.capo : draw(0, 7);
                int reach = draw(1, 6);
                check.due(told("totalWith"), m.totalWith(capo, reach), () -> x.totalWith(capo, reach));
                break;
            }
            case 4: check.due(told("bestCapo"), m.bestCapo(), () -> x.bestCapo()); break;
            case 5: {
                int s = draw(0, m.opens.size() - 1);
                check.due(told("totalWithout"), m.totalWithout(s), () -> x.totalWithout(s));
                int pitch = draw(0, 80);
                check.due(told("fretOf"), m.fretOf(s, pitch), () -> x.fretOf(s, pitch));
                break;
            }
            default: askChord();
        }
    }

    private void askVoicing() {
        int from = draw(1, 9);
        int classes = 0;
        int bass = 0;
        for (int k = draw(1, 4); k > 0; k--) {
            int s = draw(0, m.opens.size() - 1);
            bass = (m.pitch(s, draw(0, 2) == 0 ? 0 : draw(from, from + 3))) % 12;
            classes |= 1 << bass;
        }
        int set = classes;
        int lowest = bass;
        List<int[]> shapes = m.shapes(set, lowest, from);
        String call = "(" + set + ", " + lowest + ", " + from + ")";
        check.due(told("shapes" + call), shapes.size(), () -> x.shapes(set, lowest, from));
        check.due(told("shapeEffort" + call), shapes.isEmpty() ? -1 : Model.effort(shapes.get(0)),
                () -> x.shapeEffort(set, lowest, from));
        for (int s = 0; s < m.opens.size(); s++) {
            int string = s;
            check.due(told("shapeFret" + call + s), shapes.isEmpty() ? -1 : shapes.get(0)[s],
                    () -> x.shapeFret(set, lowest, from, string));
        }
    }

    private void askChord() {
        if (m.chords.isEmpty()) {
            return;
        }
        int c = draw(0, m.chords.size() - 1);
        int what = draw(0, 5);
        check.due(told("ofChord " + c + " " + what), m.ofChord(c, what), () -> x.ofChord(c, what));
        Model.Path plan = m.plan();
        check.due(told("plan " + c), plan == null ? -1 : plan.numbers[c], () -> x.plan(c));
        List<int[]> grips = m.grips(c);
        check.due(told("ofChord " + c + " 4"), grips.size(), () -> x.ofChord(c, 4));
        if (grips.isEmpty()) {
            return;
        }
        int g = draw(0, grips.size() - 1);
        int[] grip = grips.get(g);
        for (int w = 0; w <= 5; w++) {
            int question = w;
            check.due(told("ofGrip " + w), Model.ofGrip(grip, w), () -> x.ofGrip(c, g, question));
        }
        for (int s = 0; s < grip.length; s++) {
            int string = s;
            check.due(told("fret"), grip[s], () -> x.fret(c, g, string));
            check.due(told("finger"), Model.fingers(grip)[s], () -> x.finger(c, g, string));
        }
        check.due(told("totalFixed"), m.totalFixed(c, g), () -> x.totalFixed(c, g));
        if (c + 1 < m.chords.size() && !m.grips(c + 1).isEmpty()) {
            List<int[]> after = m.grips(c + 1);
            int n = draw(0, after.size() - 1);
            check.due(told("move"), m.moveOf(grip, after.get(n), m.chords.get(c).length), () -> x.move(c, g, n));
        }
    }
}
