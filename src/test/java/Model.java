import java.util.ArrayList;
import java.util.Arrays;
import java.util.Comparator;
import java.util.HashMap;
import java.util.List;
import java.util.Map;
import java.util.TreeSet;

/** The document once more, in the plainest way and as slow as it may be, to compare with. */
final class Model {
    static final int NONE = -1;

    static final class Written {
        int[] pitches;
        int length;
        int[] fixed;
    }

    List<Integer> opens = new ArrayList<>();
    List<Boolean> slacks = new ArrayList<>();
    List<Written> chords = new ArrayList<>();
    int capo = 0;
    int reach = 3;
    /** The grips of a state that was asked before: only for speed. */
    private final Map<String, List<int[]>> known;

    Model() {
        known = new HashMap<>();
    }

    private Model(Map<String, List<int[]>> known) {
        this.known = known;
    }

    Model copy() {
        Model m = new Model(known);
        m.opens.addAll(opens);
        m.slacks.addAll(slacks);
        for (Written w : chords) {
            Written c = new Written();
            c.pitches = w.pitches.clone();
            c.length = w.length;
            c.fixed = w.fixed == null ? null : w.fixed.clone();
            m.chords.add(c);
        }
        m.capo = capo;
        m.reach = reach;
        return m;
    }

    // ---- what one grip is

    static int low(int[] grip) {
        for (int f = 1; f <= 12; f++) {
            for (int fret : grip) {
                if (fret == f) {
                    return f;
                }
            }
        }
        return 0;
    }

    static int high(int[] grip) {
        int high = 0;
        for (int fret : grip) {
            high = Math.max(high, fret);
        }
        return high;
    }

    static boolean barre(int[] grip) {
        int low = low(grip);
        List<Integer> at = new ArrayList<>();
        for (int s = 0; s < grip.length; s++) {
            if (grip[s] > 0 && grip[s] == low) {
                at.add(s);
            }
        }
        if (at.size() < 2) {
            return false;
        }
        for (int s = at.get(0); s <= at.get(at.size() - 1); s++) {
            if (grip[s] == 0) {
                return false;
            }
        }
        return true;
    }

    static int[] fingers(int[] grip) {
        int[] fingers = new int[grip.length];
        int low = low(grip);
        boolean barre = barre(grip);
        int next = 1;
        for (int f = 1; f <= 12; f++) {
            for (int s = 0; s < grip.length; s++) {
                if (grip[s] == f) {
                    fingers[s] = next;
                    if (!(f == low && barre)) {
                        next++;
                    }
                }
            }
            if (f == low && barre) {
                next = 2;
            }
        }
        return fingers;
    }

    static int fingerCount(int[] grip) {
        TreeSet<Integer> set = new TreeSet<>();
        for (int f : fingers(grip)) {
            if (f > 0) {
                set.add(f);
            }
        }
        return set.size();
    }

    static int sounding(int[] grip) {
        return (int) Arrays.stream(grip).filter(f -> f != NONE).count();
    }

    static int effort(int[] grip) {
        int effort = 2 * (high(grip) - low(grip)) + fingerCount(grip) + (barre(grip) ? 3 : 0);
        for (int s = 0; s < grip.length; s++) {
            boolean before = false;
            boolean behind = false;
            for (int t = 0; t < grip.length; t++) {
                before |= t < s && grip[t] != NONE;
                behind |= t > s && grip[t] != NONE;
            }
            if (grip[s] == NONE && before && behind) {
                effort++;
            }
        }
        return effort;
    }

    boolean playable(int[] grip) {
        return high(grip) - low(grip) <= reach && Arrays.stream(fingers(grip)).max().orElse(0) <= 4;
    }

    static int compareFrets(int[] a, int[] b) {
        return Arrays.compare(a, b);
    }

    // ---- the grips of a chord

    int pitch(int string, int fret) {
        return opens.get(string) + capo + fret;
    }

    int fretOf(int string, int pitch) {
        for (int f = 0; f <= 12 - capo; f++) {
            if (!slacks.get(string) && pitch(string, f) == pitch) {
                return f;
            }
        }
        return NONE;
    }

    List<int[]> grips(int chord) {
        int[] pitches = chords.get(chord).pitches;
        String key = opens + " " + slacks + " " + capo + " " + reach + " " + Arrays.toString(pitches);
        return known.computeIfAbsent(key, k -> gripsOf(pitches));
    }

    private List<int[]> gripsOf(int[] pitches) {
        List<int[]> all = new ArrayList<>();
        int[] grip = new int[opens.size()];
        Arrays.fill(grip, NONE);
        collect(pitches, grip, 0, all);
        all.sort(Comparator.<int[]>comparingInt(Model::effort).thenComparing(Model::compareFrets));
        return all.size() > 30 ? all.subList(0, 30) : all;
    }

    private void collect(int[] pitches, int[] grip, int string, List<int[]> all) {
        if (string == grip.length) {
            int[] sounded = new int[sounding(grip)];
            int n = 0;
            for (int s = 0; s < grip.length; s++) {
                if (grip[s] != NONE) {
                    sounded[n++] = pitch(s, grip[s]);
                }
            }
            Arrays.sort(sounded);
            int[] wanted = pitches.clone();
            Arrays.sort(wanted);
            if (Arrays.equals(sounded, wanted) && playable(grip)) {
                all.add(grip.clone());
            }
            return;
        }
        grip[string] = NONE;
        collect(pitches, grip, string + 1, all);
        for (int p : pitches) {
            int f = fretOf(string, p);
            if (f != NONE) {
                grip[string] = f;
                collect(pitches, grip, string + 1, all);
            }
        }
        grip[string] = NONE;
    }

    int fixedNumber(int chord) {
        Written w = chords.get(chord);
        if (w.fixed == null) {
            return NONE;
        }
        int[] now = new int[opens.size()];
        Arrays.fill(now, NONE);
        System.arraycopy(w.fixed, 0, now, 0, w.fixed.length);
        List<int[]> grips = grips(chord);
        for (int g = 0; g < grips.size(); g++) {
            if (Arrays.equals(grips.get(g), now)) {
                return g;
            }
        }
        return NONE;
    }

    int moveOf(int[] from, int[] to, int length) {
        if (low(from) == 0 || low(to) == 0) {
            return 0;
        }
        int cost = (length == 1 ? 6 : 3) * Math.abs(low(from) - low(to));
        for (int s = 0; s < from.length; s++) {
            if (to[s] > 0 && from[s] != to[s]) {
                cost++;
            }
        }
        return cost;
    }

    // ---- the plan: forward, with the whole path kept, the smaller one first

    static final class Path {
        int cost;
        int[] numbers;
    }

    Path plan() {
        if (chords.isEmpty()) {
            return null;
        }
        List<Path> paths = new ArrayList<>();
        List<int[]> before = null;
        for (int c = 0; c < chords.size(); c++) {
            List<int[]> grips = grips(c);
            int fixed = fixedNumber(c);
            List<Path> longer = new ArrayList<>();
            List<int[]> used = new ArrayList<>();
            for (int g = 0; g < grips.size(); g++) {
                if (fixed != NONE && fixed != g) {
                    continue;
                }
                int effort = effort(grips.get(g));
                Path best = null;
                for (int b = 0; b < (c == 0 ? 1 : paths.size()); b++) {
                    Path p = new Path();
                    p.numbers = c == 0 ? new int[1] : Arrays.copyOf(paths.get(b).numbers, c + 1);
                    p.numbers[c] = g;
                    p.cost = effort;
                    if (c > 0) {
                        p.cost += paths.get(b).cost + moveOf(before.get(b), grips.get(g), chords.get(c - 1).length);
                    }
                    best = better(p, best) ? p : best;
                }
                longer.add(best);
                used.add(grips.get(g));
            }
            if (longer.isEmpty()) {
                return null;
            }
            paths = longer;
            before = used;
        }
        Path best = null;
        for (Path p : paths) {
            best = better(p, best) ? p : best;
        }
        return best;
    }

    private static boolean better(Path p, Path than) {
        return than == null || p.cost < than.cost
                || p.cost == than.cost && Arrays.compare(p.numbers, than.numbers) < 0;
    }

    int total() {
        Path p = plan();
        return p == null ? NONE : p.cost;
    }

    int[] moves() {
        Path p = plan();
        if (p == null) {
            return null;
        }
        int[] moves = new int[chords.size() - 1];
        for (int c = 0; c < moves.length; c++) {
            moves[c] = moveOf(grips(c).get(p.numbers[c]), grips(c + 1).get(p.numbers[c + 1]), chords.get(c).length);
        }
        return moves;
    }

    int hardest() {
        int[] moves = moves();
        if (moves == null || moves.length == 0) {
            return NONE;
        }
        int most = Arrays.stream(moves).max().getAsInt();
        for (int c = 0; true; c++) {
            if (moves[c] == most) {
                return c;
            }
        }
    }

    double meanEffort() {
        int total = total();
        int sum = chords.stream().mapToInt(w -> w.length).sum();
        return total == NONE ? 0 : (double) total / sum;
    }

    // ---- voicings

    List<int[]> shapes(int classes, int bass, int from) {
        List<int[]> all = new ArrayList<>();
        int[] grip = new int[opens.size()];
        shape(classes, bass, from, grip, 0, all);
        all.sort(Comparator.<int[]>comparingInt(Model::effort).thenComparing(g -> -sounding(g))
                .thenComparing(Model::compareFrets));
        return all;
    }

    private void shape(int classes, int bass, int from, int[] grip, int string, List<int[]> all) {
        if (string == grip.length) {
            int heard = 0;
            int lowest = 1000;
            for (int s = 0; s < grip.length; s++) {
                if (grip[s] != NONE) {
                    heard |= 1 << pitch(s, grip[s]) % 12;
                    lowest = Math.min(lowest, pitch(s, grip[s]));
                }
            }
            if (heard == classes && lowest % 12 == bass && playable(grip)) {
                all.add(grip.clone());
            }
            return;
        }
        for (int f = NONE; f <= 12 - capo; f++) {
            boolean allowed = f == NONE || !slacks.get(string) && (f == 0 || f >= from && f <= from + 3)
                    && (classes >> pitch(string, f) % 12 & 1) == 1;
            if (allowed) {
                grip[string] = f;
                shape(classes, bass, from, grip, string + 1, all);
            }
        }
    }

    // ---- what would be

    int totalWith(int otherCapo, int otherReach) {
        Model m = copy();
        m.capo = otherCapo;
        m.reach = otherReach;
        return m.total();
    }

    int bestCapo() {
        int best = NONE;
        for (int c = 7; c >= 0; c--) {
            int total = totalWith(c, reach);
            if (total != NONE && (best == NONE || total <= totalWith(best, reach))) {
                best = c;
            }
        }
        return best;
    }

    int totalWithout(int string) {
        Model m = copy();
        m.slacks.set(string, true);
        return m.total();
    }

    int totalFixed(int chord, int grip) {
        Model m = copy();
        m.chords.get(chord).fixed = grips(chord).get(grip);
        return m.total();
    }

    int many(int what) {
        switch (what) {
            case 0: return opens.size();
            case 1: return (int) slacks.stream().filter(b -> b).count();
            case 2: return capo;
            case 3: return reach;
            case 4: return chords.size();
            case 5: return count(5);
            case 6: return count(6);
            default: return moves() == null ? NONE : Arrays.stream(moves()).sum();
        }
    }

    private int count(int what) {
        int n = 0;
        for (int c = 0; c < chords.size(); c++) {
            boolean counts = what == 5 ? grips(c).isEmpty() : fixedNumber(c) != NONE;
            n += counts ? 1 : 0;
        }
        return n;
    }

    int ofChord(int chord, int what) {
        Written w = chords.get(chord);
        switch (what) {
            case 0: return w.pitches.length;
            case 1: return Arrays.stream(w.pitches).min().getAsInt();
            case 2: return Arrays.stream(w.pitches).max().getAsInt();
            case 3: return w.length;
            case 4: return grips(chord).size();
            default: return fixedNumber(chord);
        }
    }

    static int ofGrip(int[] grip, int what) {
        switch (what) {
            case 0: return effort(grip);
            case 1: return low(grip);
            case 2: return high(grip);
            case 3: return fingerCount(grip);
            case 4: return barre(grip) ? 1 : 0;
            default: return sounding(grip);
        }
    }

    long digest() {
        List<Integer> v = new ArrayList<>();
        for (int w = 0; w <= 7; w++) {
            v.add(many(w));
        }
        Path plan = plan();
        for (int c = 0; c < chords.size(); c++) {
            for (int w = 0; w <= 5; w++) {
                v.add(ofChord(c, w));
            }
            v.add(plan == null ? NONE : plan.numbers[c]);
            if (plan != null) {
                int[] grip = grips(c).get(plan.numbers[c]);
                for (int w = 0; w <= 5; w++) {
                    v.add(ofGrip(grip, w));
                }
                for (int s = 0; s < grip.length; s++) {
                    v.add(grip[s]);
                    v.add(fingers(grip)[s]);
                }
            }
        }
        v.add(total());
        v.add(hardest());
        v.add(bestCapo());
        for (int s = 0; s < opens.size(); s++) {
            v.add(totalWithout(s));
        }
        List<int[]> major = shapes(145, 0, 1);
        v.add(major.size());
        v.add(major.isEmpty() ? NONE : effort(major.get(0)));
        long d = 58104;
        for (int n : v) {
            d = d * 31 + n;
        }
        return d;
    }
}
