/** Each promise of the document by itself: ordinary inputs, the edges that it names, and wrong inputs. */
public final class PromiseTest extends Asking {
    private static Check check;

    public static void main(String[] args) {
        check = new Check("PromiseTest");
        promise1NewObject();
        promise2String();
        promise2FixedHasNoneForIt();
        promise3Tune();
        promise4Slacken();
        promise5Capo();
        promise6Reach();
        promise7FretOf();
        promise8Chord();
        promise9Strike();
        promise10Fix();
        promise10FixedByItsFrets();
        promise11OfChord();
        promise11OnlyThirtyCount();
        promise12OfGrip();
        promise12Barre();
        promise12Playable();
        promise13Fret();
        promise14Finger();
        promise15Move();
        promise16Plan();
        promise16PlanOfSeveral();
        promise17Total();
        promise18Hardest();
        promise19Many();
        promise20MeanEffort();
        promise21Shapes();
        promise22ShapeEffort();
        promise23ShapeFret();
        promise24TotalWith();
        promise25BestCapo();
        promise26TotalWithout();
        promise27TotalFixed();
        promise28Digest();
        check.end();
    }

    private static void promise1NewObject() {
        Tablature x = new Tablature();
        check.same("many() of a new one", many(x), "0 0 0 3 0 0 0 -1");
        check.due("total() of a new one", NONE, () -> x.total());
        check.due("shapes() of a new one", 0, () -> x.shapes(145, 0, 1));
    }

    private static void promise2String() {
        Tablature x = new Tablature();
        check.refused("string(-1)", x, ARGUMENT, () -> x.string(-1));
        check.refused("string(61)", x, ARGUMENT, () -> x.string(61));
        check.refused("string(least)", x, ARGUMENT, () -> x.string(LEAST));
        for (int s = 0; s < 6; s++) {
            int number = s;
            check.due("string " + s, s, () -> x.string(number * 12));
            check.due("fretOf its open pitch", 0, () -> x.fretOf(number, number * 12));
        }
        check.refused("a seventh string", x, STATE, () -> x.string(60));
        check.refused("a seventh string with a wrong pitch", x, ARGUMENT, () -> x.string(61));
        check.due("many(0)", 6, () -> x.many(0));
    }

    private static void promise2FixedHasNoneForIt() {
        Tablature x = strung(30);
        chord(x, 1, 32);
        x.fix(0, 0);
        check.due("string behind", 1, () -> x.string(31));
        check.same("the first grip now", frets(x, 0, 0), "- 1");
        check.due("the fixed one now", 1, () -> x.ofChord(0, 5));
        x.tune(0, 20);
        x.tune(1, 20);
        check.due("none is fixed, when there is none", NONE, () -> x.ofChord(0, 5));
        x.string(21);
        x.tune(0, 30);
        check.same("the fixed one again", frets(x, 0, x.ofChord(0, 5)), "2 - -");
    }

    private static void promise3Tune() {
        Tablature x = strung(30, 35);
        chord(x, 1, 36);
        check.due("ofChord(0, 4)", 2, () -> x.ofChord(0, 4));
        check.due("tune(1, 40)", 35, () -> x.tune(1, 40));
        check.due("ofChord(0, 4) then", 1, () -> x.ofChord(0, 4));
        check.due("tune(1, 0)", 40, () -> x.tune(1, 0));
        check.due("tune(1, 60)", 0, () -> x.tune(1, 60));
        check.due("fretOf(0, 36)", 6, () -> x.fretOf(0, 36));
        check.due("fretOf(1, 61)", 1, () -> x.fretOf(1, 61));
        check.refused("tune(2, 0)", x, INDEX, () -> x.tune(2, 0));
        check.refused("tune(-1, 0)", x, INDEX, () -> x.tune(-1, 0));
        check.refused("tune(2, 61)", x, INDEX, () -> x.tune(2, 61));
        check.refused("tune(0, 61)", x, ARGUMENT, () -> x.tune(0, 61));
        check.refused("tune(0, -1)", x, ARGUMENT, () -> x.tune(0, -1));
    }

    private static void promise4Slacken() {
        Tablature x = strung(30, 35, 40);
        chord(x, 1, 36);
        check.due("slacken(1, true)", 2, () -> x.slacken(1, true));
        check.due("slacken(1, true) again", 2, () -> x.slacken(1, true));
        check.due("ofChord(0, 4)", 1, () -> x.ofChord(0, 4));
        check.due("fret on the slack one", NONE, () -> x.fret(0, 0, 1));
        check.due("slacken(0, true)", 1, () -> x.slacken(0, true));
        check.due("slacken(2, false)", 1, () -> x.slacken(2, false));
        check.due("ofChord(0, 4) without", 0, () -> x.ofChord(0, 4));
        check.due("slacken(1, false)", 2, () -> x.slacken(1, false));
        check.same("the grip", frets(x, 0, 0), "- 1 -");
        check.refused("slacken(3, true)", x, INDEX, () -> x.slacken(3, true));
        check.refused("slacken(-1, true)", x, INDEX, () -> x.slacken(-1, true));
    }

    private static void promise5Capo() {
        Tablature x = strung(30);
        chord(x, 1, 37);
        check.due("capo(7)", 0, () -> x.capo(7));
        check.same("the grip under 7", frets(x, 0, 0), "0");
        check.due("capo(3)", 7, () -> x.capo(3));
        check.same("the grip under 3", frets(x, 0, 0), "4");
        check.refused("capo(8)", x, ARGUMENT, () -> x.capo(8));
        check.refused("capo(-1)", x, ARGUMENT, () -> x.capo(-1));
        check.due("capo(0)", 3, () -> x.capo(0));
    }

    private static void promise6Reach() {
        Tablature x = strung(30, 35);
        chord(x, 1, 31, 40);
        check.due("frets 1 and 5 under 3", 0, () -> x.ofChord(0, 4));
        check.due("reach(4)", 3, () -> x.reach(4));
        check.due("frets 1 and 5 under 4", 1, () -> x.ofChord(0, 4));
        check.due("reach(6)", 4, () -> x.reach(6));
        check.due("reach(1)", 6, () -> x.reach(1));
        check.due("frets 1 and 5 under 1", 0, () -> x.ofChord(0, 4));
        check.refused("reach(0)", x, ARGUMENT, () -> x.reach(0));
        check.refused("reach(7)", x, ARGUMENT, () -> x.reach(7));
        check.due("reach(3)", 1, () -> x.reach(3));
    }

    private static void promise7FretOf() {
        Tablature x = strung(0, 60);
        check.due("fretOf(0, 0)", 0, () -> x.fretOf(0, 0));
        check.due("fretOf(0, 12)", 12, () -> x.fretOf(0, 12));
        check.due("fretOf(0, 13)", NONE, () -> x.fretOf(0, 13));
        check.due("fretOf(1, 59)", NONE, () -> x.fretOf(1, 59));
        check.due("fretOf(1, 72)", 12, () -> x.fretOf(1, 72));
        check.due("fretOf(1, 80)", NONE, () -> x.fretOf(1, 80));
        x.capo(7);
        check.due("under a capo of 7: fretOf(0, 6)", NONE, () -> x.fretOf(0, 6));
        check.due("under a capo of 7: fretOf(0, 7)", 0, () -> x.fretOf(0, 7));
        check.due("under a capo of 7: fretOf(0, 12)", 5, () -> x.fretOf(0, 12));
        check.due("under a capo of 7: fretOf(0, 13)", NONE, () -> x.fretOf(0, 13));
        x.slacken(0, true);
        check.due("slack: fretOf(0, 7)", NONE, () -> x.fretOf(0, 7));
        check.refused("fretOf(2, 0)", x, INDEX, () -> x.fretOf(2, 0));
        check.refused("fretOf(-1, 81)", x, INDEX, () -> x.fretOf(-1, 81));
        check.refused("fretOf(0, 81)", x, ARGUMENT, () -> x.fretOf(0, 81));
        check.refused("fretOf(0, -1)", x, ARGUMENT, () -> x.fretOf(0, -1));
    }

    private static void promise8Chord() {
        Tablature x = strung(30);
        check.due("chord(0, -1, 80, -1, 1)", 0, () -> x.chord(0, -1, 80, -1, 1));
        check.due("chord(4, 3, 2, 1, 8)", 1, () -> x.chord(4, 3, 2, 1, 8));
        check.due("pitches of the first", 2, () -> x.ofChord(0, 0));
        int[][] wrong = {{-1, 1, 2, 3, 1}, {81, 1, 2, 3, 1}, {1, -2, 2, 3, 1}, {1, 81, 2, 3, 1}, {1, 2, -2, 3, 1},
            {1, 2, 81, 3, 1}, {1, 2, 3, -2, 1}, {1, 2, 3, 81, 1}, {1, 1, 2, 3, 1}, {1, 2, 1, 3, 1}, {1, 2, 3, 1, 1},
            {1, 2, 2, 3, 1}, {1, 2, 3, 2, 1}, {1, 2, 3, 3, 1}, {1, 2, 3, 4, 0}, {1, 2, 3, 4, 9}, {1, -1, -1, -1, -1}};
        for (int[] w : wrong) {
            check.refused("chord of " + java.util.Arrays.toString(w), x, ARGUMENT,
                    () -> x.chord(w[0], w[1], w[2], w[3], w[4]));
        }
        for (int c = 2; c < 12; c++) {
            check.due("chord " + c, c, () -> x.chord(30, -1, -1, -1, 2));
        }
        check.refused("a thirteenth chord", x, STATE, () -> x.chord(30, -1, -1, -1, 2));
        check.refused("a thirteenth chord with a wrong length", x, ARGUMENT, () -> x.chord(30, -1, -1, -1, 9));
    }

    private static void promise9Strike() {
        Tablature x = strung(30, 35);
        chord(x, 1, 36);
        chord(x, 2, 37);
        chord(x, 3, 38);
        x.fix(1, 0);
        x.fix(2, 1);
        check.refused("strike(3)", x, INDEX, () -> x.strike(3));
        check.refused("strike(-1)", x, INDEX, () -> x.strike(-1));
        check.due("strike(1)", 2, () -> x.strike(1));
        check.due("lowest of the next one", 38, () -> x.ofChord(1, 1));
        check.due("length of the next one", 3, () -> x.ofChord(1, 3));
        check.due("fixed of the next one", 1, () -> x.ofChord(1, 5));
        check.due("lowest of the one before", 36, () -> x.ofChord(0, 1));
        check.due("fixed of the one before", NONE, () -> x.ofChord(0, 5));
        check.due("chord behind", 2, () -> x.chord(37, -1, -1, -1, 4));
        check.due("a new chord has nothing fixed", NONE, () -> x.ofChord(2, 5));
        check.due("strike(2)", 2, () -> x.strike(2));
        check.due("strike(0)", 1, () -> x.strike(0));
        check.due("strike(0) again", 0, () -> x.strike(0));
        check.refused("strike(0) of none", x, INDEX, () -> x.strike(0));
    }

    private static void promise10Fix() {
        Tablature x = strung(0, 5);
        chord(x, 1, 2, 7);
        chord(x, 1, 5);
        check.due("fix of a barre", 4, () -> x.fix(0, 0));
        check.due("fix(1, 1)", 1, () -> x.fix(1, 1));
        check.due("fixed", 1, () -> x.ofChord(1, 5));
        check.due("fix(1, 0) in its place", 0, () -> x.fix(1, 0));
        check.due("fixed then", 0, () -> x.ofChord(1, 5));
        check.refused("fix(1, 2)", x, INDEX, () -> x.fix(1, 2));
        check.refused("fix(1, -2)", x, INDEX, () -> x.fix(1, -2));
        check.refused("fix(2, 0)", x, INDEX, () -> x.fix(2, 0));
        check.refused("fix(2, -1)", x, INDEX, () -> x.fix(2, -1));
        check.refused("fix(-1, 0)", x, INDEX, () -> x.fix(-1, 0));
        check.due("fix(1, -1)", 0, () -> x.fix(1, -1));
        check.due("none is fixed", NONE, () -> x.ofChord(1, 5));
        check.due("the other one still", 0, () -> x.ofChord(0, 5));
    }

    private static void promise10FixedByItsFrets() {
        Tablature x = strung(0, 5);
        chord(x, 1, 7);
        x.fix(0, 1);
        check.same("what is fixed", frets(x, 0, 1), "7 -");
        x.slacken(0, true);
        check.due("not while it is none", NONE, () -> x.ofChord(0, 5));
        check.due("many(6)", 0, () -> x.many(6));
        x.slacken(0, false);
        check.due("again", 1, () -> x.ofChord(0, 5));
        x.slacken(1, true);
        check.due("by its frets, not its number", 0, () -> x.ofChord(0, 5));
        x.slacken(1, false);
        x.capo(1);
        check.due("not under the capo", NONE, () -> x.ofChord(0, 5));
        x.fix(0, -1);
        x.capo(0);
        check.due("given up while it was none", NONE, () -> x.ofChord(0, 5));
    }

    private static void promise11OfChord() {
        Tablature x = strung(28, 33, 38, 43, 47, 52);
        chord(x, 5, 40, 28, 44, 35);
        chord(x, 8, 80);
        int[] due = {4, 28, 44, 5, 1, NONE, 1, 80, 80, 8, 0, NONE};
        for (int k = 0; k < due.length; k++) {
            int c = k / 6;
            int what = k % 6;
            check.due("ofChord(" + c + ", " + what + ")", due[k], () -> x.ofChord(c, what));
        }
        x.fix(0, 0);
        check.due("ofChord(0, 5) fixed", 0, () -> x.ofChord(0, 5));
        check.refused("ofChord(0, 6)", x, ARGUMENT, () -> x.ofChord(0, 6));
        check.refused("ofChord(0, -1)", x, ARGUMENT, () -> x.ofChord(0, -1));
        check.refused("ofChord(2, 0)", x, INDEX, () -> x.ofChord(2, 0));
        check.refused("ofChord(2, 6)", x, INDEX, () -> x.ofChord(2, 6));
        check.refused("ofChord(-1, 0)", x, INDEX, () -> x.ofChord(-1, 0));
    }

    /** Three frets in a row on equal strings: 7 without a gap, 8 with one; on four strings 12 of each. */
    private static void promise11OnlyThirtyCount() {
        Tablature x = strung(10, 10, 10, 10);
        chord(x, 1, 11, 12, 13);
        check.due("of four strings", 24, () -> x.ofChord(0, 4));
        check.same("the first one", frets(x, 0, 0), "- 1 2 3");
        check.same("the last without a gap", frets(x, 0, 11), "3 2 1 -");
        check.same("the first with a gap", frets(x, 0, 12), "1 - 2 3");
        check.same("the last one", frets(x, 0, 23), "3 2 - 1");
        check.due("fix(0, 23)", 8, () -> x.fix(0, 23));
        x.string(10);
        x.string(10);
        check.due("of six strings 30 count", 30, () -> x.ofChord(0, 4));
        check.same("the 24th of six strings", frets(x, 0, 23), "3 2 1 - - -");
        check.same("the 30th of six strings", frets(x, 0, 29), "- - 2 - 3 1");
        check.refused("the 31st", x, INDEX, () -> x.ofGrip(0, 30, 0));
        check.due("fixed behind the 30th is not fixed", NONE, () -> x.ofChord(0, 5));
        x.slacken(4, true);
        x.slacken(5, true);
        check.due("fixed again", 23, () -> x.ofChord(0, 5));
    }

    private static void promise12OfGrip() {
        Tablature x = strung(28, 33, 38, 43, 47, 52);
        chord(x, 4, 28, 35, 40, 44);
        check.same("0 2 2 1 - -", frets(x, 0, 0), "0 2 2 1 - -");
        check.same("ofGrip() of it", ofGrip(x, 0, 0), "5 1 2 3 0 4");
        chord(x, 4, 28, 64);
        check.same("0 - - - - 12", frets(x, 1, 0), "0 - - - - 12");
        check.same("four between", ofGrip(x, 1, 0), "5 12 12 1 0 2");
        chord(x, 4, 28);
        check.same("an open one", ofGrip(x, 2, 0), "0 0 0 0 0 1");
        check.refused("ofGrip(0, 1, 0)", x, INDEX, () -> x.ofGrip(0, 1, 0));
        check.refused("ofGrip(0, -1, 0)", x, INDEX, () -> x.ofGrip(0, -1, 0));
        check.refused("ofGrip(3, 0, 0)", x, INDEX, () -> x.ofGrip(3, 0, 0));
        check.refused("ofGrip(-1, 0, 0)", x, INDEX, () -> x.ofGrip(-1, 0, 0));
        check.refused("ofGrip(0, 1, 6)", x, INDEX, () -> x.ofGrip(0, 1, 6));
        check.refused("ofGrip(0, 0, 6)", x, ARGUMENT, () -> x.ofGrip(0, 0, 6));
        check.refused("ofGrip(0, 0, -1)", x, ARGUMENT, () -> x.ofGrip(0, 0, -1));
    }

    private static void promise12Barre() {
        Tablature x = strung(0, 5, 10);
        chord(x, 1, 2, 7);
        check.same("2 2 -", ofGrip(x, 0, 0), "4 2 2 1 1 2");
        chord(x, 1, 2, 12);
        check.same("2 - 2 over a silent one", ofGrip(x, 1, 0), "5 2 2 1 1 2");
        chord(x, 1, 2, 5, 12);
        check.same("2 0 2 cut by an open one", ofGrip(x, 2, 0), "2 2 2 2 0 3");
        check.same("2 0 2 has two fingers", fingers(x, 2, 0), "1 0 2");
        chord(x, 1, 0, 7, 12);
        check.same("0 2 2 with an open one ahead", ofGrip(x, 3, 0), "4 2 2 1 1 3");
        chord(x, 1, 3, 7, 13);
        check.same("3 2 3: two at the upper fret are none", ofGrip(x, 4, 0), "5 2 3 3 0 3");
        x.slacken(1, true);
        check.same("2 - 2 over a slack one", ofGrip(x, 1, 0), "5 2 2 1 1 2");
    }

    private static void promise12Playable() {
        Tablature x = strung(0, 13, 26, 39);
        chord(x, 1, 1, 14, 27, 40);
        check.same("a barre over four", ofGrip(x, 0, 0), "4 1 1 1 1 4");
        chord(x, 1, 1, 15, 28, 42);
        check.same("four fingers", ofGrip(x, 1, 0), "8 1 3 4 0 4");
        chord(x, 1, 1, 15, 28, 43);
        check.same("just as far as the reach", ofGrip(x, 2, 0), "10 1 4 4 0 4");
        chord(x, 1, 1, 15, 28, 44);
        check.due("one fret more", 0, () -> x.ofChord(3, 4));
        // the class 1 is at the fret 1 of the outer strings, the class 6 at the fret 2 of the others
        Tablature y = strung(0, 4, 4, 4, 4);
        check.due("1 2 2 2 2 needs five fingers: 15 - 1", 14, () -> y.shapes(1 << 1 | 1 << 6, 1, 1));
        y.string(0);
        check.due("1 2 2 2 - 1 needs four, with a barre: 3 * 14", 42, () -> y.shapes(1 << 1 | 1 << 6, 1, 1));
    }

    private static void promise13Fret() {
        Tablature x = strung(0, 5);
        chord(x, 1, 5);
        check.same("the first grip", frets(x, 0, 0), "- 0");
        check.same("the second grip", frets(x, 0, 1), "5 -");
        chord(x, 1, 8);
        check.same("of the same effort NONE is the smaller fret", frets(x, 1, 0), "- 3");
        check.same("and then", frets(x, 1, 1), "8 -");
        check.refused("fret(0, 0, 2)", x, INDEX, () -> x.fret(0, 0, 2));
        check.refused("fret(0, 0, -1)", x, INDEX, () -> x.fret(0, 0, -1));
        check.refused("fret(0, 2, 0)", x, INDEX, () -> x.fret(0, 2, 0));
        check.refused("fret(0, -1, 0)", x, INDEX, () -> x.fret(0, -1, 0));
        check.refused("fret(2, 0, 0)", x, INDEX, () -> x.fret(2, 0, 0));
        check.refused("fret(-1, 0, 0)", x, INDEX, () -> x.fret(-1, 0, 0));
    }

    private static void promise14Finger() {
        Tablature x = strung(0, 13, 26, 39);
        chord(x, 1, 3, 14, 28, 40);
        check.same("3 1 2 1", frets(x, 0, 0), "3 1 2 1");
        check.same("a barre at 1, then by frets", fingers(x, 0, 0), "3 1 2 1");
        chord(x, 1, 3, 14, 29, 39);
        check.same("3 1 3 0: of the same fret by strings", fingers(x, 1, 0), "2 1 3 0");
        chord(x, 1, 2);
        check.same("2 - - -", fingers(x, 2, 0), "1 0 0 0");
        check.refused("finger(0, 0, 4)", x, INDEX, () -> x.finger(0, 0, 4));
        check.refused("finger(0, 0, -1)", x, INDEX, () -> x.finger(0, 0, -1));
        check.refused("finger(0, 1, 0)", x, INDEX, () -> x.finger(0, 1, 0));
        check.refused("finger(0, -1, 0)", x, INDEX, () -> x.finger(0, -1, 0));
        check.refused("finger(3, 0, 0)", x, INDEX, () -> x.finger(3, 0, 0));
        check.refused("finger(-1, 0, 0)", x, INDEX, () -> x.finger(-1, 0, 0));
    }

    private static void promise15Move() {
        Tablature x = strung(0, 20);
        chord(x, 1, 2);
        chord(x, 2, 5, 25);
        chord(x, 8, 2, 23);
        chord(x, 1, 0);
        chord(x, 1, 3, 23);
        check.due("length 1: 6 * 3 + 2", 20, () -> x.move(0, 0, 0));
        check.due("length 2: 3 * 3 + 2", 11, () -> x.move(1, 0, 0));
        check.due("nothing is pressed in the second", 0, () -> x.move(2, 0, 0));
        check.due("nothing is pressed in the first", 0, () -> x.move(3, 0, 0));
        x.strike(3);
        check.due("a string stays at its fret: 3 * 1 + 1", 4, () -> x.move(2, 0, 0));
        check.refused("move of the last one", x, INDEX, () -> x.move(3, 0, 0));
        check.refused("move(4, 0, 0)", x, INDEX, () -> x.move(4, 0, 0));
        check.refused("move(-1, 0, 0)", x, INDEX, () -> x.move(-1, 0, 0));
        check.refused("move(most, 0, 0)", x, INDEX, () -> x.move(MOST, 0, 0));
        check.refused("move(0, 1, 0)", x, INDEX, () -> x.move(0, 1, 0));
        check.refused("move(0, -1, 0)", x, INDEX, () -> x.move(0, -1, 0));
        check.refused("move(0, 0, 1)", x, INDEX, () -> x.move(0, 0, 1));
        check.refused("move(0, 0, -1)", x, INDEX, () -> x.move(0, 0, -1));
    }

    private static void promise16Plan() {
        Tablature x = strung(0, 5);
        chord(x, 1, 8);
        check.due("the first grip", 0, () -> x.plan(0));
        chord(x, 1, 8);
        x.fix(1, 1);
        check.due("drawn by the fixed one", 1, () -> x.plan(0));
        check.due("the fixed one", 1, () -> x.plan(1));
        x.fix(1, -1);
        check.due("of several the first number", 0, () -> x.plan(0));
        check.due("and then", 0, () -> x.plan(1));
        chord(x, 1, 40);
        check.due("NONE, if a chord has no grip", NONE, () -> x.plan(0));
        check.due("NONE also for that", NONE, () -> x.plan(2));
        check.refused("plan(3)", x, INDEX, () -> x.plan(3));
        check.refused("plan(-1)", x, INDEX, () -> x.plan(-1));
    }

    private static void promise16PlanOfSeveral() {
        Tablature x = strung(0, 5);
        chord(x, 1, 6);
        chord(x, 1, 11);
        check.same("the grips of the first", frets(x, 0, 0) + ", " + frets(x, 0, 1), "- 1, 6 -");
        check.same("the grips of the second", frets(x, 1, 0) + ", " + frets(x, 1, 1), "- 6, 11 -");
        check.due("6 -> 6 takes 1", 1, () -> x.move(0, 1, 0));
        check.due("so the second one first", 1, () -> x.plan(0));
        check.due("then the first one", 0, () -> x.plan(1));
        // three equal strings: the same effort on each of them, so that the numbers decide
        Tablature y = strung(10, 10, 10);
        chord(y, 1, 12);
        chord(y, 1, 12);
        chord(y, 1, 12);
        y.fix(1, 2);
        check.due("the same string everywhere", 2, () -> y.plan(0));
        y.fix(2, 1);
        check.due("three strings: the first stays", 2, () -> y.plan(0));
        y.fix(1, -1);
        check.due("1 1 1", 1, () -> y.plan(0));
        y.fix(0, 0);
        check.due("0 0 1 goes ahead of 0 1 1 and 0 2 1", 0, () -> y.plan(1));
    }

    private static void promise17Total() {
        Tablature x = strung(0);
        check.due("without chords", NONE, () -> x.total());
        chord(x, 1, 3);
        check.due("of one", 1, () -> x.total());
        chord(x, 2, 5);
        chord(x, 1, 4);
        check.due("1 + 13 + 1 + 4 + 1", 20, () -> x.total());
        chord(x, 1, 13);
        check.due("with one that has no grip", NONE, () -> x.total());
        x.strike(3);
        check.due("without that", 20, () -> x.total());
        for (int c = 0; c < 3; c++) {
            x.strike(0);
        }
        check.due("without any again", NONE, () -> x.total());
        check.due("and so the sum of the moves", NONE, () -> x.many(7));
    }

    private static void promise18Hardest() {
        Tablature x = strung(0);
        check.due("without a plan", NONE, () -> x.hardest());
        chord(x, 2, 3);
        check.due("with one chord", NONE, () -> x.hardest());
        chord(x, 2, 3);
        check.due("with one move that takes nothing", 0, () -> x.hardest());
        chord(x, 2, 5);
        check.due("the second takes more", 1, () -> x.hardest());
        chord(x, 2, 3);
        check.due("of several the first", 1, () -> x.hardest());
        chord(x, 2, 9);
        check.due("the last one", 3, () -> x.hardest());
        chord(x, 2, 20);
        check.due("no plan again", NONE, () -> x.hardest());
    }

    private static void promise19Many() {
        Tablature x = strung(0, 20, 40);
        x.slacken(2, true);
        x.capo(1);
        x.reach(5);
        chord(x, 2, 3);
        check.same("with one chord", many(x), "3 1 1 5 1 0 0 0");
        chord(x, 2, 5);
        chord(x, 1, 8);
        x.fix(1, 0);
        check.same("7 + 10", many(x), "3 1 1 5 3 0 1 17");
        chord(x, 1, 60);
        chord(x, 1, 61);
        check.same("without a plan", many(x), "3 1 1 5 5 2 1 -1");
        check.refused("many(8)", x, ARGUMENT, () -> x.many(8));
        check.refused("many(-1)", x, ARGUMENT, () -> x.many(-1));
    }

    private static void promise20MeanEffort() {
        Tablature x = strung(0);
        check.dueDouble("without a plan", 0.0, () -> x.meanEffort());
        chord(x, 1, 3);
        chord(x, 2, 5);
        chord(x, 8, 4);
        check.dueDouble("20 by 11", 20.0 / 11, () -> x.meanEffort());
        x.strike(2);
        check.dueDouble("15 by 3", 5.0, () -> x.meanEffort());
        chord(x, 8, 20);
        check.dueDouble("without one again", 0.0, () -> x.meanEffort());
    }

    private static void refuseVoicings(String call, Tablature x, VoicingCall asked) {
        int[][] wrong = {{0, 0, 1}, {-1, 0, 1}, {4096, 0, 1}, {4097, 0, 1}, {31, 0, 1}, {145, 1, 1}, {145, -1, 1},
            {145, 12, 1}, {145, 32, 1}, {145, 0, 0}, {145, 0, 10}, {145, 0, -1}, {LEAST, 31, 1}};
        for (int[] w : wrong) {
            check.refused(call + java.util.Arrays.toString(w), x, ARGUMENT, () -> asked.ask(w[0], w[1], w[2]));
        }
    }

    private static void promise21Shapes() {
        Tablature x = strung(36, 40, 43);
        check.due("open", 1, () -> x.shapes(145, 0, 1));
        check.due("with another bass", 0, () -> x.shapes(145, 4, 1));
        check.due("of one class", 1, () -> x.shapes(1, 0, 1));
        x.string(48);
        check.due("two may sound the same class", 6, () -> x.shapes(145, 0, 1));
        // 5 by 5 frets, each of the class 0 (0) or 5 (5), without both of the same
        Tablature y = strung(0, 0);
        check.due("0 5, 5 0, with the bass 0", 2, () -> y.shapes(1 | 1 << 5, 0, 2));
        check.due("none from 6 on", 0, () -> y.shapes(1 | 1 << 5, 0, 6));
        check.due("the bass 0 alone: 0 -, - 0, 0 0", 3, () -> y.shapes(1, 0, 1));
        check.due("12 12, 12 0, 12 -, ...", 8, () -> y.shapes(1, 0, 9));
        y.capo(1);
        check.due("no fret 12 under a capo", 3, () -> y.shapes(1 << 1, 1, 9));
        y.slacken(1, true);
        check.due("without the slack one", 1, () -> y.shapes(1 << 1, 1, 9));
        Tablature z = strung(0, 5);
        check.due("1 and 9 on two strings are reached", 1, () -> z.shapes(1 << 1 | 1 << 9, 1, 1));
        z.reach(2);
        check.due("not with a reach of 2", 0, () -> z.shapes(1 << 1 | 1 << 9, 1, 1));
        refuseVoicings("shapes", x, x::shapes);
        check.due("four classes, fret 9, bass 11", 0, () -> x.shapes(3840, 11, 9));
    }

    private static void promise22ShapeEffort() {
        Tablature x = strung(36, 40, 43);
        check.due("open", 0, () -> x.shapeEffort(145, 0, 1));
        check.due("without one", NONE, () -> x.shapeEffort(145, 4, 1));
        check.due("a barre over three from 2 on", 4, () -> x.shapeEffort(1 << 2 | 1 << 6 | 1 << 9, 2, 2));
        check.due("nothing is held from before", 0, () -> x.shapeEffort(145, 0, 2));
        x.capo(2);
        check.due("a capo instead of the barre", 0, () -> x.shapeEffort(1 << 2 | 1 << 6 | 1 << 9, 2, 2));
        x.slacken(0, true);
        check.due("without the string", NONE, () -> x.shapeEffort(1 << 2 | 1 << 6 | 1 << 9, 2, 2));
        refuseVoicings("shapeEffort", x, x::shapeEffort);
    }

    private static void promise23ShapeFret() {
        Tablature x = strung(36, 40, 43, 48);
        check.same("of the same effort more strings", shape(x, 145, 0, 1), "0 0 0 0");
        check.same("without one", shape(x, 1 << 1, 1, 2), "- - - -");
        Tablature y = strung(1, 1, 3);
        check.same("the smallest effort, with one string", shape(y, 1 << 3, 3, 2), "- - 0");
        y.slacken(2, true);
        check.same("of the same strings the smaller fret first", shape(y, 1 << 3, 3, 2), "- 2 -");
        check.same("as many strings, a smaller fret", shape(y, 1 << 1 | 1 << 3, 1, 2), "0 2 -");
        check.refused("shapeFret of no string", y, INDEX, () -> y.shapeFret(145, 0, 1, 3));
        check.refused("shapeFret of string -1", y, INDEX, () -> y.shapeFret(145, 0, 1, -1));
        check.refused("shapeFret of no string and no voicing", y, INDEX, () -> y.shapeFret(0, 0, 0, 3));
        refuseVoicings("shapeFret", y, (classes, bass, fret) -> y.shapeFret(classes, bass, fret, 0));
    }

    private static void promise24TotalWith() {
        Tablature x = strung(0, 5);
        chord(x, 1, 3);
        chord(x, 1, 3, 11);
        check.due("6 and 3: unplayable under a reach of 2", NONE, () -> x.totalWith(0, 2));
        check.due("under a reach of 3: 1 + 1 + 2 * 3 + 2", 10, () -> x.totalWith(0, 3));
        check.due("under a capo of 3: 0 + 1", 1, () -> x.totalWith(3, 1));
        check.due("under a capo of 7", NONE, () -> x.totalWith(7, 6));
        check.due("nothing is changed", 10, () -> x.total());
        check.due("nor the capo", 0, () -> x.many(2));
        check.due("nor the reach", 3, () -> x.many(3));
        Tablature y = strung(0, 5);
        chord(y, 1, 8);
        chord(y, 1, 5);
        y.fix(1, 1);
        check.due("what is fixed stays fixed: 1 + 1 + 13", 15, () -> y.totalWith(0, 6));
        check.due("as far as it can", 1, () -> y.totalWith(3, 3));
        for (int[] w : new int[][] {{8, 3}, {-1, 3}, {0, 0}, {0, 7}}) {
            check.refused("totalWith of " + w[0] + ", " + w[1], x, ARGUMENT, () -> x.totalWith(w[0], w[1]));
        }
    }

    private static void promise25BestCapo() {
        Tablature x = strung(0);
        check.due("without chords", NONE, () -> x.bestCapo());
        chord(x, 1, 3);
        check.due("the one with the open string", 3, () -> x.bestCapo());
        chord(x, 1, 8);
        check.due("no move under 3", 3, () -> x.bestCapo());
        x.capo(2);
        check.due("whatever the capo is", 3, () -> x.bestCapo());
        check.due("which stays", 2, () -> x.many(2));
        x.strike(0);
        check.due("of several the smallest: 8 from 0 to 7 is 1", 0, () -> x.bestCapo());
        x.strike(0);
        chord(x, 1, 7);
        check.due("7", 7, () -> x.bestCapo());
        x.tune(0, 60);
        check.due("without any with a plan", NONE, () -> x.bestCapo());
        Tablature y = strung(0, 5);
        chord(y, 1, 3, 11);
        y.reach(1);
        check.due("with the reach that is", 3, () -> y.bestCapo());
    }

    private static void promise26TotalWithout() {
        Tablature x = strung(0, 5);
        chord(x, 1, 5);
        chord(x, 1, 7);
        check.due("total", 1, () -> x.total());
        check.due("without the first", 1, () -> x.totalWithout(0));
        check.due("without the second: 1 + 13 + 1", 15, () -> x.totalWithout(1));
        check.due("nothing is changed", 0, () -> x.many(1));
        x.fix(0, 1);
        check.due("fixed on the first: 1 + 1 + 13", 15, () -> x.totalWithout(1));
        check.due("not fixed without the first", 1, () -> x.totalWithout(0));
        x.slacken(0, true);
        check.due("without a slack one", 1, () -> x.totalWithout(0));
        check.due("without both", NONE, () -> x.totalWithout(1));
        check.refused("totalWithout(2)", x, INDEX, () -> x.totalWithout(2));
        check.refused("totalWithout(-1)", x, INDEX, () -> x.totalWithout(-1));
    }

    private static void promise27TotalFixed() {
        Tablature x = strung(0, 5);
        chord(x, 1, 5);
        chord(x, 1, 7);
        check.due("total", 1, () -> x.total());
        check.due("totalFixed(0, 0)", 1, () -> x.totalFixed(0, 0));
        check.due("totalFixed(0, 1): 5 to 7", 15, () -> x.totalFixed(0, 1));
        x.fix(0, 1);
        check.due("in place of the one that is", 1, () -> x.totalFixed(0, 0));
        check.due("with the other one that is", 15, () -> x.totalFixed(1, 1));
        check.due("what is fixed stays", 1, () -> x.ofChord(0, 5));
        check.due("and the other is not", NONE, () -> x.ofChord(1, 5));
        check.due("total still", 15, () -> x.total());
        chord(x, 1, 40);
        check.due("without a plan", NONE, () -> x.totalFixed(0, 0));
        check.refused("totalFixed(2, 0)", x, INDEX, () -> x.totalFixed(2, 0));
        check.refused("totalFixed(3, 0)", x, INDEX, () -> x.totalFixed(3, 0));
        check.refused("totalFixed(-1, 0)", x, INDEX, () -> x.totalFixed(-1, 0));
        check.refused("totalFixed(0, 2)", x, INDEX, () -> x.totalFixed(0, 2));
        check.refused("totalFixed(0, -1)", x, INDEX, () -> x.totalFixed(0, -1));
    }

    private static long mixed(int... numbers) {
        long d = 58104;
        for (int v : numbers) {
            d = d * 31 + v;
        }
        return d;
    }

    private static void promise28Digest() {
        Tablature x = new Tablature();
        check.due("digest() of a new one", mixed(0, 0, 0, 3, 0, 0, 0, -1, -1, -1, -1, 0, -1), () -> x.digest());
        x.string(0);
        x.string(4);
        chord(x, 5, 2, 6);
        x.fix(0, 0);
        chord(x, 2, 7);
        // a barre at 2 (finger 1 on both), then 3 on the string 1: 4 + 3 + 1 + 1
        check.due("digest() with a plan", mixed(2, 0, 0, 3, 2, 0, 1, 4,
                2, 2, 6, 5, 1, 0, 0, 4, 2, 2, 1, 1, 2, 2, 1, 2, 1,
                1, 7, 7, 2, 2, -1, 0, 1, 3, 3, 1, 0, 1, -1, 0, 3, 1,
                9, 0, 2, -1, -1, 0, -1), () -> x.digest());
        chord(x, 1, 30);
        check.due("digest() without a plan", mixed(2, 0, 0, 3, 3, 1, 1, -1,
                2, 2, 6, 5, 1, 0, -1, 1, 7, 7, 2, 2, -1, -1, 1, 30, 30, 1, 0, -1, -1,
                -1, -1, -1, -1, -1, 0, -1), () -> x.digest());
        Tablature y = strung(0, 4, 7);
        check.due("digest() with a shape", mixed(3, 0, 0, 3, 0, 0, 0, -1, -1, -1, -1, -1, -1, -1, 1, 0),
                () -> y.digest());
    }
}
