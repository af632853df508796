/** What the tests with numbers worked out by hand have in common: how an object is made, and how it is asked. */
abstract class Asking {
    static final Class<IndexOutOfBoundsException> INDEX = IndexOutOfBoundsException.class;
    static final Class<IllegalArgumentException> ARGUMENT = IllegalArgumentException.class;
    static final Class<IllegalStateException> STATE = IllegalStateException.class;
    static final int NONE = -1;
    static final int LEAST = Integer.MIN_VALUE;
    static final int MOST = Integer.MAX_VALUE;

    /** How far the strings of wide() lie apart: a pitch is then on one of them alone. */
    private static final int APART = 13;

    interface VoicingCall {
        int ask(int classes, int bass, int fret);
    }

    static Tablature strung(int... opens) {
        Tablature x = new Tablature();
        for (int open : opens) {
            x.string(open);
        }
        return x;
    }

    /** Five strings; of each set of frets there is a chord that has this one grip alone. */
    static Tablature wide() {
        return strung(0, APART, 2 * APART, 3 * APART, 4 * APART);
    }

    /** Writes the chord that on the strings of wide() is gripped with these frets. */
    static int gripped(Tablature x, int length, int... frets) {
        int[] p = {NONE, NONE, NONE, NONE};
        int size = 0;
        for (int s = 0; s < frets.length; s++) {
            if (frets[s] != NONE) {
                p[size++] = APART * s + frets[s];
            }
        }
        return x.chord(p[0], p[1], p[2], p[3], length);
    }

    static int chord(Tablature x, int length, int... pitches) {
        int[] p = {NONE, NONE, NONE, NONE};
        System.arraycopy(pitches, 0, p, 0, pitches.length);
        return x.chord(p[0], p[1], p[2], p[3], length);
    }

    /** The frets of a grip, as 3 0 - 2. */
    static String frets(Tablature x, int chord, int grip) {
        StringBuilder text = new StringBuilder();
        for (int s = 0; s < x.many(0); s++) {
            int fret = x.fret(chord, grip, s);
            text.append(s == 0 ? "" : " ").append(fret == NONE ? "-" : String.valueOf(fret));
        }
        return text.toString();
    }

    /** The frets of all grips of a chord, in their order. */
    static String allFrets(Tablature x, int chord) {
        StringBuilder text = new StringBuilder();
        for (int g = 0; g < x.ofChord(chord, 4); g++) {
            text.append(g == 0 ? "" : ", ").append(frets(x, chord, g));
        }
        return text.toString();
    }

    static String fingers(Tablature x, int chord, int grip) {
        StringBuilder text = new StringBuilder();
        for (int s = 0; s < x.many(0); s++) {
            text.append(s == 0 ? "" : " ").append(x.finger(chord, grip, s));
        }
        return text.toString();
    }

    static String ofGrip(Tablature x, int chord, int grip) {
        StringBuilder text = new StringBuilder();
        for (int what = 0; what <= 5; what++) {
            text.append(what == 0 ? "" : " ").append(x.ofGrip(chord, grip, what));
        }
        return text.toString();
    }

    static String ofChord(Tablature x, int chord) {
        StringBuilder text = new StringBuilder();
        for (int what = 0; what <= 5; what++) {
            text.append(what == 0 ? "" : " ").append(x.ofChord(chord, what));
        }
        return text.toString();
    }

    static String many(Tablature x) {
        StringBuilder text = new StringBuilder();
        for (int what = 0; what <= 7; what++) {
            text.append(what == 0 ? "" : " ").append(x.many(what));
        }
        return text.toString();
    }

    static String plan(Tablature x) {
        StringBuilder text = new StringBuilder();
        for (int c = 0; c < x.many(4); c++) {
            text.append(c == 0 ? "" : " ").append(x.plan(c));
        }
        return text.toString();
    }

    /** The frets of the best shape. */
    static String shape(Tablature x, int classes, int bass, int fret) {
        StringBuilder text = new StringBuilder();
        for (int s = 0; s < x.many(0); s++) {
            int found = x.shapeFret(classes, bass, fret, s);
            text.append(s == 0 ? "" : " ").append(found == NONE ? "-" : String.valueOf(found));
        }
        return text.toString();
    }

    /** The set of these classes. */
    static int set(int... classes) {
        int set = 0;
        for (int c : classes) {
            set |= 1 << c;
        }
        return set;
    }
}
