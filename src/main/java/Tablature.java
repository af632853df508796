/** A planner of fingerings. */
public final class Tablature {
    private static final int NONE = -1;
    private static final int MOST_STRINGS = 6;
    private static final int MOST_CHORDS = 12;
    private static final int MOST_PITCHES = 4;
    private static final int MOST_GRIPS = 30;
    private static final int MOST_FINGERS = 4;
    private static final int MOST_CLASSES = 4;
    private static final int HIGHEST_OPEN = 60;
    private static final int HIGHEST_PITCH = 80;
    private static final int HIGHEST_FRET = 12;
    private static final int HIGHEST_CAPO = 7;
    private static final int WIDEST_REACH = 6;
    private static final int LONGEST = 8;
    private static final int ALL_CLASSES = 4095;
    private static final int CLASS_COUNT = 12;
    private static final int LAST_SHAPE_FRET = 9;
    private static final int SHAPE_SPAN = 3;
    private static final int MAJOR = 145;

    private final Instrument instrument = new Instrument();
    private final Instrument trialInstrument = new Instrument();
    private final Piece piece = new Piece();
    private final Planner planner = new Planner();
    private final Planner trialPlanner = new Planner();
    private final Shapes voicing = new Shapes();
    private final Hand hand = new Hand();
    private boolean planIsStale = true;

    public Tablature() {
    }

    // ---- the instrument

    public int string(int open) throws IllegalArgumentException, IllegalStateException {
        needOpen(open);
        if (instrument.count >= MOST_STRINGS) {
            throw new IllegalStateException("there are six strings");
        }
        int number = instrument.draw(open);
        instrumentChanged();
        return number;
    }

    public int tune(int string, int open) throws IndexOutOfBoundsException, IllegalArgumentException {
        needString(string);
        needOpen(open);
        int before = instrument.open[string];
        instrument.open[string] = open;
        instrumentChanged();
        return before;
    }

    public int slacken(int string, boolean isSlack) throws IndexOutOfBoundsException {
        needString(string);
        instrument.slack[string] = isSlack;
        instrumentChanged();
        return instrument.count - instrument.slackCount();
    }

    public int capo(int capo) throws IllegalArgumentException {
        needCapo(capo);
        int before = instrument.capo;
        instrument.capo = capo;
        instrumentChanged();
        return before;
    }

    public int reach(int reach) throws IllegalArgumentException {
        needReach(reach);
        int before = instrument.reach;
        instrument.reach = reach;
        instrumentChanged();
        return before;
    }

    public int fretOf(int string, int pitch) throws IndexOutOfBoundsException, IllegalArgumentException {
        needString(string);
        if (!isPitch(pitch)) {
            throw new IllegalArgumentException("no such pitch");
        }
        return instrument.fretFor(string, pitch);
    }

    // ---- the piece

    public int chord(int first, int second, int third, int fourth, int length)
            throws IllegalArgumentException, IllegalStateException {
        if (!isPitch(first) || !isPitchOrNone(second) || !isPitchOrNone(third) || !isPitchOrNone(fourth)) {
            throw new IllegalArgumentException("no such pitch");
        }
        if (hasTwice(first, second, third, fourth)) {
            throw new IllegalArgumentException("two are the same pitch");
        }
        if (length < 1 || length > LONGEST) {
            throw new IllegalArgumentException("no such length");
        }
        if (piece.count >= MOST_CHORDS) {
            throw new IllegalStateException("there are twelve chords");
        }
        Chord written = piece.append(length);
        written.add(first);
        written.add(second);
        written.add(third);
        written.add(fourth);
        planIsStale = true;
        return piece.count - 1;
    }

    public int strike(int chord) throws IndexOutOfBoundsException {
        needChord(chord);
        piece.remove(chord);
        planIsStale = true;
        return piece.count;
    }

    public int fix(int chord, int grip) throws IndexOutOfBoundsException {
        needChord(chord);
        int code = NONE;
        int effort = 0;
        if (grip != NONE) {
            Grips grips = needGrip(chord, grip);
            code = grips.codes[grip];
            effort = grips.efforts[grip];
        }
        piece.chords[chord].fixedCode = code;
        planIsStale = true;
        return effort;
    }

    public int ofChord(int chord, int what) throws IndexOutOfBoundsException, IllegalArgumentException {
        needChord(chord);
        needQuestion(what, 5);
        refreshPlan();
        return askChord(chord, what);
    }

    // ---- grips and moves

    public int ofGrip(int chord, int grip, int what) throws IndexOutOfBoundsException, IllegalArgumentException {
        Grips grips = needGrip(chord, grip);
        needQuestion(what, 5);
        hand.hold(grips.codes[grip]);
        return askHand(what);
    }

    public int fret(int chord, int grip, int string) throws IndexOutOfBoundsException {
        Grips grips = needGrip(chord, grip);
        needString(string);
        return GripCode.fretAt(grips.codes[grip], string);
    }

    public int finger(int chord, int grip, int string) throws IndexOutOfBoundsException {
        Grips grips = needGrip(chord, grip);
        needString(string);
        hand.hold(grips.codes[grip]);
        return hand.fingerOn(string);
    }

    public int move(int chord, int grip, int next) throws IndexOutOfBoundsException {
        needGrip(chord, grip);
        // behind the last chord there is none, and so no grip of it
        needGrip(chord + 1, next);
        return planner.moveCost(chord, grip, next);
    }

    // ---- the plan

    public int plan(int chord) throws IndexOutOfBoundsException {
        needChord(chord);
        refreshPlan();
        return planner.choice[chord];
    }

    public int total() {
        refreshPlan();
        return planner.total;
    }

    public int hardest() {
        refreshPlan();
        return planner.hardestMove();
    }

    public int many(int what) throws IllegalArgumentException {
        needQuestion(what, 7);
        refreshPlan();
        return askWhole(what);
    }

    public double meanEffort() {
        refreshPlan();
        int lengths = piece.sumOfLengths();
        return planner.total == NONE || lengths == 0 ? 0.0 : (double) planner.total / lengths;
    }

    // ---- voicings

    public int shapes(int classes, int bass, int fret) throws IllegalArgumentException {
        needVoicing(classes, bass, fret);
        return freshVoicing(classes, bass, fret).count;
    }

    public int shapeEffort(int classes, int bass, int fret) throws IllegalArgumentException {
        needVoicing(classes, bass, fret);
        return freshVoicing(classes, bass, fret).bestEffort;
    }

    public int shapeFret(int classes, int bass, int fret, int string)
            throws IndexOutOfBoundsException, IllegalArgumentException {
        needString(string);
        needVoicing(classes, bass, fret);
        return freshVoicing(classes, bass, fret).bestFret(string);
    }

    // ---- what would be (nothing is changed; what is fixed stays fixed as far as it can)

    public int totalWith(int capo, int reach) throws IllegalArgumentException {
        needCapo(capo);
        needReach(reach);
        return totalUnder(capo, reach);
    }

    public int bestCapo() {
        int best = NONE;
        int bestTotal = NONE;
        for (int capo = 0; capo <= HIGHEST_CAPO; capo++) {
            int total = totalUnder(capo, instrument.reach);
            if (total != NONE && (best == NONE || total < bestTotal)) {
                best = capo;
                bestTotal = total;
            }
        }
        return best;
    }

    public int totalWithout(int string) throws IndexOutOfBoundsException {
        needString(string);
        trialInstrument.copy(instrument);
        trialInstrument.slack[string] = true;
        trialPlanner.read(trialInstrument, piece);
        trialPlanner.solve();
        return trialPlanner.total;
    }

    public int totalFixed(int chord, int grip) throws IndexOutOfBoundsException {
        needGrip(chord, grip);
        trialPlanner.read(instrument, piece);
        trialPlanner.fixed[chord] = grip;
        trialPlanner.solve();
        return trialPlanner.total;
    }

    public long digest() {
        refreshPlan();
        long d = 58104;
        for (int what = 0; what <= 7; what++) {
            d = mix(d, askWhole(what));
        }
        for (int chord = 0; chord < piece.count; chord++) {
            d = mixChord(d, chord);
        }
        d = mix(d, planner.total);
        d = mix(d, planner.hardestMove());
        d = mix(d, bestCapo());
        for (int string = 0; string < instrument.count; string++) {
            d = mix(d, totalWithout(string));
        }
        Shapes ofMajor = freshVoicing(MAJOR, 0, 1);
        d = mix(d, ofMajor.count);
        return mix(d, ofMajor.bestEffort);
    }

    private long mixChord(long digest, int chord) {
        long d = digest;
        for (int what = 0; what <= 5; what++) {
            d = mix(d, askChord(chord, what));
        }
        int grip = planner.choice[chord];
        d = mix(d, grip);
        return planner.grips[chord].has(grip) ? mixGrip(d, planner.grips[chord].codes[grip]) : d;
    }

    private long mixGrip(long digest, int code) {
        long d = digest;
        hand.hold(code);
        for (int what = 0; what <= 5; what++) {
            d = mix(d, askHand(what));
        }
        for (int string = 0; string < instrument.count; string++) {
            d = mix(d, GripCode.fretAt(code, string));
            d = mix(d, hand.fingerOn(string));
        }
        return d;
    }

    private static long mix(long d, int v) {
        return d * 31 + v;
    }

    /** The answers that need a plan that is not stale. */
    private int askWhole(int what) {
        switch (what) {
            case 0: return instrument.count;
            case 1: return instrument.slackCount();
            case 2: return instrument.capo;
            case 3: return instrument.reach;
            case 4: return piece.count;
            case 5: return planner.griplessCount();
            case 6: return planner.fixedCount();
            default: return planner.sumOfMoves();
        }
    }

    private int askChord(int chord, int what) {
        Chord asked = piece.chords[chord];
        switch (what) {
            case 0: return asked.size;
            case 1: return asked.lowest();
            case 2: return asked.highest();
            case 3: return asked.length;
            case 4: return planner.grips[chord].count;
            default: return planner.fixed[chord];
        }
    }

    private int askHand(int what) {
        switch (what) {
            case 0: return hand.effort();
            case 1: return hand.low;
            case 2: return hand.high;
            case 3: return hand.fingerCount();
            case 4: return hand.barre ? 1 : 0;
            default: return hand.sounding;
        }
    }

    private int totalUnder(int capo, int reach) {
        trialInstrument.copy(instrument);
        trialInstrument.capo = capo;
        trialInstrument.reach = reach;
        trialPlanner.read(trialInstrument, piece);
        trialPlanner.solve();
        return trialPlanner.total;
    }

    private void instrumentChanged() {
        planIsStale = true;
        voicing.forget();
    }

    private void refreshPlan() {
        if (planIsStale) {
            planner.read(instrument, piece);
            planner.solve();
            planIsStale = false;
        }
    }

    private Shapes freshVoicing(int classes, int bass, int fret) {
        if (!voicing.isOf(classes, bass, fret)) {
            voicing.seek(instrument, classes, bass, fret);
        }
        return voicing;
    }

    private void needString(int string) {
        if (string < 0 || string >= instrument.count) {
            throw new IndexOutOfBoundsException("no such string");
        }
    }

    private void needChord(int chord) {
        if (chord < 0 || chord >= piece.count) {
            throw new IndexOutOfBoundsException("no such chord");
        }
    }

    private Grips needGrip(int chord, int grip) {
        needChord(chord);
        refreshPlan();
        if (!planner.grips[chord].has(grip)) {
            throw new IndexOutOfBoundsException("no such grip");
        }
        return planner.grips[chord];
    }

    private static void needQuestion(int what, int last) {
        if (what < 0 || what > last) {
            throw new IllegalArgumentException("no such question");
        }
    }

    private static void needOpen(int open) {
        if (open < 0 || open > HIGHEST_OPEN) {
            throw new IllegalArgumentException("no such open pitch");
        }
    }

    private static void needCapo(int capo) {
        if (capo < 0 || capo > HIGHEST_CAPO) {
            throw new IllegalArgumentException("no such capo");
        }
    }

    private static void needReach(int reach) {
        if (reach < 1 || reach > WIDEST_REACH) {
            throw new IllegalArgumentException("no such reach");
        }
    }

    private static void needVoicing(int classes, int bass, int fret) {
        if (classes < 1 || classes > ALL_CLASSES || Integer.bitCount(classes) > MOST_CLASSES) {
            throw new IllegalArgumentException("no such set of classes");
        }
        if (bass < 0 || bass >= CLASS_COUNT || (classes >> bass & 1) == 0) {
            throw new IllegalArgumentException("no such bass");
        }
        if (fret < 1 || fret > LAST_SHAPE_FRET) {
            throw new IllegalArgumentException("no such fret");
        }
    }

    private static boolean isPitch(int pitch) {
        return pitch >= 0 && pitch <= HIGHEST_PITCH;
    }

    private static boolean isPitchOrNone(int pitch) {
        return pitch == NONE || isPitch(pitch);
    }

    private static boolean hasTwice(int first, int second, int third, int fourth) {
        return first == second || first == third || first == fourth
                || second != NONE && (second == third || second == fourth)
                || third != NONE && third == fourth;
    }

    /**
     * A grip as one number: four bits for each string, its fret + 1 (0 for NONE), the first string in the
     * highest ones. So of two grips that with the smaller fret at the first difference is the smaller number,
     * and a string that is drawn later has NONE in every number that is kept.
     */
    private static final class GripCode {
        static final int EMPTY = 0;
        private static final int LOWEST_BITS = 0x111111;

        static int fretAt(int code, int string) {
            return (code >> 4 * (MOST_STRINGS - 1 - string) & 15) - 1;
        }

        static int with(int code, int string, int fret) {
            return code | fret + 1 << 4 * (MOST_STRINGS - 1 - string);
        }

        /** One bit for each string that is pressed in the second grip, but not at the same fret in the first. */
        static int newlyPressed(int first, int second) {
            int changed = first ^ second;
            int isChanged = changed | changed >> 1 | changed >> 2 | changed >> 3;
            // a fret above 0 is written as 2 or more: one of its upper three bits is set
            int isPressed = second >> 1 | second >> 2 | second >> 3;
            return isChanged & isPressed & LOWEST_BITS;
        }
    }

    private static final class Instrument {
        final int[] open = new int[MOST_STRINGS];
        final boolean[] slack = new boolean[MOST_STRINGS];
        int count = 0;
        int capo = 0;
        int reach = 3;

        int draw(int openPitch) {
            if (count >= MOST_STRINGS) {
                return NONE;
            }
            open[count] = openPitch;
            slack[count] = false;
            count++;
            return count - 1;
        }

        void copy(Instrument other) {
            for (int string = 0; string < MOST_STRINGS; string++) {
                open[string] = other.open[string];
                slack[string] = other.slack[string];
            }
            count = other.count;
            capo = other.capo;
            reach = other.reach;
        }

        int slackCount() {
            int slackOnes = 0;
            for (int string = 0; string < MOST_STRINGS; string++) {
                if (slack[string]) {
                    slackOnes++;
                }
            }
            return slackOnes;
        }

        boolean isUsed(int string) {
            return string >= 0 && string < count && string < MOST_STRINGS && !slack[string];
        }

        int lastFret() {
            return HIGHEST_FRET - capo;
        }

        /** The pitch of a string that is used, with a fret that it has. */
        int pitchOf(int string, int fret) {
            return isUsed(string) ? open[string] + capo + fret : NONE;
        }

        int fretFor(int string, int pitch) {
            if (!isUsed(string)) {
                return NONE;
            }
            int fret = pitch - open[string] - capo;
            return fret >= 0 && fret <= lastFret() ? fret : NONE;
        }
    }

    private static final class Chord {
        final int[] pitches = new int[MOST_PITCHES];
        int size = 0;
        int length = 1;
        int fixedCode = NONE;

        void clear(int newLength) {
            size = 0;
            length = newLength;
            fixedCode = NONE;
        }

        void add(int pitch) {
            if (pitch != NONE && size < MOST_PITCHES) {
                pitches[size] = pitch;
                size++;
            }
        }

        int lowest() {
            int lowest = HIGHEST_PITCH;
            for (int k = 0; k < size; k++) {
                lowest = Math.min(lowest, pitches[k]);
            }
            return lowest;
        }

        int highest() {
            int highest = 0;
            for (int k = 0; k < size; k++) {
                highest = Math.max(highest, pitches[k]);
            }
            return highest;
        }
    }

    private static final class Piece {
        final Chord[] chords = new Chord[MOST_CHORDS];
        int count = 0;

        Piece() {
            for (int chord = 0; chord < MOST_CHORDS; chord++) {
                chords[chord] = new Chord();
            }
        }

        /** To be called only while there is room. */
        Chord append(int length) {
            int at = Math.min(count, MOST_CHORDS - 1);
            chords[at].clear(length);
            count = at + 1;
            return chords[at];
        }

        void remove(int chord) {
            if (chord < 0 || chord >= count) {
                return;
            }
            Chord struck = chords[chord];
            for (int at = chord; at < count - 1; at++) {
                chords[at] = chords[at + 1];
            }
            // kept behind the others, so that a later chord is written into it
            chords[count - 1] = struck;
            count--;
        }

        int sumOfLengths() {
            int sum = 0;
            for (int chord = 0; chord < count; chord++) {
                sum += chords[chord].length;
            }
            return sum;
        }
    }

    /** What one grip asks of the hand. */
    private static final class Hand {
        int low = 0;
        int high = 0;
        int sounding = 0;
        boolean barre = false;
        private final int[] frets = new int[MOST_STRINGS];
        private int pressed = 0;
        private int pressedAtLow = 0;
        private int skipped = 0;

        void hold(int code) {
            for (int string = 0; string < MOST_STRINGS; string++) {
                frets[string] = GripCode.fretAt(code, string);
            }
            countSounding();
            countPressed();
            findBarre();
        }

        private void countSounding() {
            sounding = 0;
            skipped = 0;
            int silentSince = 0;
            for (int string = 0; string < MOST_STRINGS; string++) {
                if (frets[string] == NONE) {
                    silentSince++;
                    continue;
                }
                // those ahead of the first one that sounds are not between two
                skipped += sounding == 0 ? 0 : silentSince;
                silentSince = 0;
                sounding++;
            }
        }

        private void countPressed() {
            low = 0;
            high = 0;
            pressed = 0;
            for (int string = 0; string < MOST_STRINGS; string++) {
                int fret = frets[string];
                if (fret > 0) {
                    pressed++;
                    low = low == 0 || fret < low ? fret : low;
                    high = fret > high ? fret : high;
                }
            }
        }

        private void findBarre() {
            pressedAtLow = 0;
            boolean openBehindFirst = false;
            boolean isCut = false;
            for (int string = 0; string < MOST_STRINGS; string++) {
                int fret = frets[string];
                if (fret == 0 && pressedAtLow > 0) {
                    openBehindFirst = true;
                }
                if (fret > 0 && fret == low) {
                    pressedAtLow++;
                    isCut = openBehindFirst;
                }
            }
            barre = pressedAtLow >= 2 && !isCut;
        }

        int fingerCount() {
            return barre ? pressed - pressedAtLow + 1 : pressed;
        }

        boolean isPlayable(int reach) {
            return high - low <= reach && fingerCount() <= MOST_FINGERS;
        }

        int effort() {
            return 2 * (high - low) + fingerCount() + (barre ? 3 : 0) + skipped;
        }

        int fingerOn(int string) {
            if (string < 0 || string >= MOST_STRINGS || frets[string] <= 0) {
                return 0;
            }
            int fret = frets[string];
            if (barre && fret == low) {
                return 1;
            }
            int before = 0;
            for (int other = 0; other < MOST_STRINGS; other++) {
                int otherFret = frets[other];
                if (otherFret > 0 && (otherFret < fret || otherFret == fret && other < string)) {
                    before++;
                }
            }
            return barre ? before - pressedAtLow + 2 : before + 1;
        }
    }

    /** The grips of one chord in their order. */
    private static final class Grips {
        final int[] codes = new int[MOST_GRIPS];
        final int[] efforts = new int[MOST_GRIPS];
        final int[] lows = new int[MOST_GRIPS];
        int count = 0;

        boolean has(int grip) {
            return grip >= 0 && grip < count && grip < MOST_GRIPS;
        }

        int numberOf(int code) {
            for (int grip = 0; grip < count; grip++) {
                if (codes[grip] == code) {
                    return grip;
                }
            }
            return NONE;
        }

        /** Puts a grip at its place; of those that are too many the last one is lost. */
        void insert(int code, int effort, int low) {
            int at = count;
            while (at > 0 && (effort < efforts[at - 1] || effort == efforts[at - 1] && code < codes[at - 1])) {
                at--;
            }
            if (at >= MOST_GRIPS) {
                return;
            }
            count = Math.min(count + 1, MOST_GRIPS);
            for (int behind = count - 1; behind > at; behind--) {
                codes[behind] = codes[behind - 1];
                efforts[behind] = efforts[behind - 1];
                lows[behind] = lows[behind - 1];
            }
            codes[at] = code;
            efforts[at] = effort;
            lows[at] = low;
        }
    }

    /** The grips of a whole piece on one instrument, and the best choice among them. */
    private static final class Planner {
        final Grips[] grips = new Grips[MOST_CHORDS];
        final int[] fixed = new int[MOST_CHORDS];
        final int[] choice = new int[MOST_CHORDS];
        int total = NONE;
        private final int[] lengths = new int[MOST_CHORDS];
        /** What a chord's grip and all that comes behind it take, if the best is chosen there. */
        private final int[][] rest = new int[MOST_CHORDS][MOST_GRIPS];
        private final Hand hand = new Hand();
        private int count = 0;

        Planner() {
            for (int chord = 0; chord < MOST_CHORDS; chord++) {
                grips[chord] = new Grips();
            }
        }

        void read(Instrument instrument, Piece piece) {
            count = Math.min(piece.count, MOST_CHORDS);
            for (int chord = 0; chord < count; chord++) {
                Chord read = piece.chords[chord];
                grips[chord].count = 0;
                place(grips[chord], hand, instrument, read, 0, GripCode.EMPTY);
                fixed[chord] = grips[chord].numberOf(read.fixedCode);
                lengths[chord] = read.length;
            }
        }

        /** Puts the pitches of a chord from this one on onto strings that are still free. */
        private static void place(Grips found, Hand hand, Instrument instrument, Chord chord, int pitch, int code) {
            if (pitch >= chord.size || pitch >= MOST_PITCHES) {
                hand.hold(code);
                if (hand.isPlayable(instrument.reach)) {
                    found.insert(code, hand.effort(), hand.low);
                }
                return;
            }
            for (int string = 0; string < instrument.count; string++) {
                int fret = instrument.fretFor(string, chord.pitches[pitch]);
                if (fret != NONE && GripCode.fretAt(code, string) == NONE) {
                    place(found, hand, instrument, chord, pitch + 1, GripCode.with(code, string, fret));
                }
            }
        }

        void solve() {
            total = NONE;
            for (int chord = 0; chord < count; chord++) {
                choice[chord] = NONE;
            }
            if (count == 0 || griplessCount() > 0) {
                return;
            }
            for (int chord = count - 1; chord >= 0; chord--) {
                for (int grip = 0; grip < grips[chord].count; grip++) {
                    int next = bestAt(chord + 1, grip);
                    int behind = next == NONE ? 0 : rest[chord + 1][next] + moveCost(chord, grip, next);
                    rest[chord][grip] = grips[chord].efforts[grip] + behind;
                }
            }
            int before = NONE;
            for (int chord = 0; chord < count; chord++) {
                choice[chord] = bestAt(chord, before);
                before = choice[chord];
            }
            total = grips[0].has(choice[0]) ? rest[0][choice[0]] : NONE;
        }

        /** The best grip of a chord behind that grip of the chord before it; NONE without such a chord. */
        private int bestAt(int chord, int before) {
            if (chord >= count) {
                return NONE;
            }
            int best = NONE;
            int least = 0;
            for (int grip = 0; grip < grips[chord].count; grip++) {
                if (fixed[chord] != NONE && fixed[chord] != grip) {
                    continue;
                }
                int cost = rest[chord][grip] + moveCost(chord - 1, before, grip);
                if (best == NONE || cost < least) {
                    best = grip;
                    least = cost;
                }
            }
            return best;
        }

        int moveCost(int chord, int grip, int next) {
            if (chord < 0 || chord + 1 >= count || !grips[chord].has(grip) || !grips[chord + 1].has(next)) {
                return 0;
            }
            int low = grips[chord].lows[grip];
            int nextLow = grips[chord + 1].lows[next];
            if (low == 0 || nextLow == 0) {
                return 0;
            }
            int pace = lengths[chord] == 1 ? 6 : 3;
            int pressedAnew = GripCode.newlyPressed(grips[chord].codes[grip], grips[chord + 1].codes[next]);
            return pace * Math.abs(nextLow - low) + Integer.bitCount(pressedAnew);
        }

        int hardestMove() {
            if (total == NONE) {
                return NONE;
            }
            // stays so with one chord: there is no move then
            int hardest = NONE;
            int most = NONE;
            for (int chord = 0; chord + 1 < count; chord++) {
                int cost = moveCost(chord, choice[chord], choice[chord + 1]);
                if (cost > most) {
                    hardest = chord;
                    most = cost;
                }
            }
            return hardest;
        }

        int sumOfMoves() {
            if (total == NONE) {
                return NONE;
            }
            int sum = 0;
            for (int chord = 0; chord + 1 < count; chord++) {
                sum += moveCost(chord, choice[chord], choice[chord + 1]);
            }
            return sum;
        }

        int griplessCount() {
            int gripless = 0;
            for (int chord = 0; chord < count; chord++) {
                if (grips[chord].count == 0) {
                    gripless++;
                }
            }
            return gripless;
        }

        int fixedCount() {
            int fixedOnes = 0;
            for (int chord = 0; chord < count; chord++) {
                if (fixed[chord] != NONE) {
                    fixedOnes++;
                }
            }
            return fixedOnes;
        }
    }

    /** The shapes of the voicing that was asked for last. */
    private static final class Shapes {
        int count = 0;
        int bestEffort = NONE;
        private int bestSounding = 0;
        private int bestCode = GripCode.EMPTY;
        private int classes = 0;
        private int bass = 0;
        private int fromFret = 0;
        private final Hand hand = new Hand();

        void forget() {
            classes = 0;
        }

        boolean isOf(int askedClasses, int askedBass, int askedFret) {
            return classes == askedClasses && bass == askedBass && fromFret == askedFret;
        }

        void seek(Instrument instrument, int newClasses, int newBass, int newFret) {
            classes = newClasses;
            bass = newBass;
            fromFret = newFret;
            count = 0;
            bestEffort = NONE;
            bestSounding = 0;
            bestCode = GripCode.EMPTY;
            place(this, instrument, 0, GripCode.EMPTY, 0, NONE);
        }

        int bestFret(int string) {
            return GripCode.fretAt(bestCode, string);
        }

        /** Goes on from this string, with what sounds on those before it: the classes and the lowest pitch. */
        private static void place(Shapes found, Instrument instrument, int string, int code, int heard, int lowest) {
            if (string >= MOST_STRINGS) {
                if (heard == found.classes && lowest >= 0 && lowest % CLASS_COUNT == found.bass) {
                    found.offer(code, instrument.reach);
                }
                return;
            }
            place(found, instrument, string + 1, code, heard, lowest);
            if (!instrument.isUsed(string)) {
                return;
            }
            int last = Math.min(found.fromFret + SHAPE_SPAN, instrument.lastFret());
            for (int fret = 0; fret <= last; fret++) {
                boolean isBelowSpan = fret > 0 && fret < found.fromFret;
                int pitch = instrument.pitchOf(string, fret);
                int pitchClass = 1 << pitch % CLASS_COUNT;
                if (!isBelowSpan && (found.classes & pitchClass) != 0) {
                    int newLowest = lowest == NONE ? pitch : Math.min(lowest, pitch);
                    place(found, instrument, string + 1, GripCode.with(code, string, fret),
                            heard | pitchClass, newLowest);
                }
            }
        }

        private void offer(int code, int reach) {
            hand.hold(code);
            if (!hand.isPlayable(reach)) {
                return;
            }
            count++;
            if (bestEffort == NONE || isBetter(code, hand.effort())) {
                bestEffort = hand.effort();
                bestSounding = hand.sounding;
                bestCode = code;
            }
        }

        private boolean isBetter(int code, int effort) {
            if (effort != bestEffort) {
                return effort < bestEffort;
            }
            if (hand.sounding != bestSounding) {
                return hand.sounding > bestSounding;
            }
            return code < bestCode;
        }
    }
}
