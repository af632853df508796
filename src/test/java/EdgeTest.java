import java.math.BigInteger;
import java.util.ArrayList;
import java.util.List;

/** The promises 1 to 28: each sentence that has an edge or refuses a call, by itself. */
public final class EdgeTest extends Asking {
    /** What no call takes as a number of something, beside the numbers just behind the last one. */
    private static final int[] NEVER = {LEAST, -33, -2, -1, 64, 1 << 16, MOST};

    private static Check check;

    public static void main(String[] args) {
        check = new Check("EdgeTest");
        promise1();
        promise1EachByItself();
        promise2();
        promise2Fixed();
        promise3();
        promise4();
        promise5And6();
        promise7();
        promise8();
        promise9();
        promise9Fixed();
        promise10();
        promise11();
        promise12();
        promise13And14();
        promise15();
        promise16();
        promise16AfterEachChange();
        promise17();
        promise18();
        promise19();
        promise20();
        promise21To23();
        promise21To23Refused();
        promise24();
        promise24Fixed();
        promise25();
        promise26();
        promise27();
        promise28();
        promise28Wraps();
        noSuchString();
        noSuchChord();
        noSuchGrip();
        theFirstNamedIsThrown();
        askingChangesNothing();
        check.end();
    }

    /** Six strings and twelve chords, of some of which a grip is fixed. */
    private static Tablature full() {
        Tablature x = strung(28, 33, 38, 43, 47, 52);
        int[][] pitches = {{28, 35, 40, 44}, {33, 40, 45, 49}, {30, 37}, {52}, {45, 50, 54}, {43, 47}};
        for (int c = 0; c < 12; c++) {
            chord(x, 1 + c % 8, pitches[c % pitches.length]);
        }
        x.fix(3, 2);
        x.fix(4, 1);
        x.fix(9, 0);
        return x;
    }

    private static void promise1() {
        check.about("Creates an instrument without STRINGS, and a piece without CHORDS");
        Tablature x = new Tablature();
        check.same("many()", many(x), "0 0 0 3 0 0 0 -1");
        check.same("the plan", x.total() + " " + x.hardest() + " " + x.meanEffort(), "-1 -1 0.0");
        check.same("voicings", x.shapes(145, 0, 1) + " " + x.shapeEffort(145, 0, 1), "0 -1");
        check.same("what would be", x.totalWith(0, 1) + " " + x.totalWith(7, 6) + " " + x.bestCapo(), "-1 -1 -1");
        check.refused("tune", x, INDEX, () -> x.tune(0, 0));
        check.refused("slacken", x, INDEX, () -> x.slacken(0, true));
        check.refused("fretOf", x, INDEX, () -> x.fretOf(0, 0));
        check.refused("shapeFret", x, INDEX, () -> x.shapeFret(145, 0, 1, 0));
        check.refused("totalWithout", x, INDEX, () -> x.totalWithout(0));
        check.refused("strike", x, INDEX, () -> x.strike(0));
        check.refused("fix of none", x, INDEX, () -> x.fix(0, NONE));
        check.refused("ofChord", x, INDEX, () -> x.ofChord(0, 0));
        check.refused("plan", x, INDEX, () -> x.plan(0));
        check.refused("totalFixed", x, INDEX, () -> x.totalFixed(0, 0));
        check.due("a chord without strings", 0, () -> x.chord(5, NONE, NONE, NONE, 1));
        check.due("it has no grip", 0, () -> x.ofChord(0, 4));
        check.same("many() then", many(x), "0 0 0 3 1 1 0 -1");
    }

    private static void promise1EachByItself() {
        check.about("Creates an instrument: what is done to one is not done to another");
        Tablature x = new Tablature();
        Tablature y = full();
        y.capo(2);
        y.reach(5);
        y.slacken(0, true);
        y.shapes(1, 0, 1);
        check.same("many() of the other", many(x), "0 0 0 3 0 0 0 -1");
        long before = y.digest();
        x.string(1);
        x.capo(7);
        chord(x, 1, 8);
        check.due("digest() of the first", before, () -> y.digest());
    }

    private static void promise2() {
        check.about("Draws a STRING, behind the others. Returns its number");
        Tablature x = new Tablature();
        for (int s = 0; s < 6; s++) {
            int number = s;
            check.due("string", s, () -> x.string(10 * (number + 1)));
        }
        for (int s = 0; s < 6; s++) {
            int number = s;
            check.due("the open pitch of " + s, 10 * (s + 1), () -> x.tune(number, 0));
        }
        check.about("Throws IllegalArgumentException if open is not 0 to 60; IllegalStateException if there are 6");
        check.refused("six, 0", x, STATE, () -> x.string(0));
        check.refused("six, 60", x, STATE, () -> x.string(60));
        check.refused("six, -1", x, ARGUMENT, () -> x.string(-1));
        check.refused("six, 61", x, ARGUMENT, () -> x.string(61));
        x.slacken(3, true);
        check.refused("six, one of them slack", x, STATE, () -> x.string(0));
        Tablature y = strung(0, 0, 0, 0, 0);
        check.refused("five, -1", y, ARGUMENT, () -> y.string(-1));
        check.refused("five, 61", y, ARGUMENT, () -> y.string(61));
        check.due("five, 60", 5, () -> y.string(60));
    }

    private static void promise2Fixed() {
        check.about("What was FIXED has NONE for it");
        Tablature x = strung(10);
        chord(x, 1, 12);
        chord(x, 1, 14);
        x.fix(0, 0);
        x.string(12);
        check.same("the grips", allFrets(x, 0), "- 0, 2 -");
        check.due("2 - is fixed", 1, () -> x.ofChord(0, 5));
        check.due("that of the other chord is not", NONE, () -> x.ofChord(1, 5));
        check.about("also what is none now");
        x.fix(0, 0);
        x.slacken(1, true);
        check.due("- 0 is none now", NONE, () -> x.ofChord(0, 5));
        x.string(12);
        check.same("the grips with a string more", allFrets(x, 0), "- - 0, 2 - -");
        check.due("neither of them is fixed", NONE, () -> x.ofChord(0, 5));
        x.slacken(1, false);
        check.same("the grips of three", allFrets(x, 0), "- - 0, - 0 -, 2 - -");
        check.due("- 0 - is fixed", 1, () -> x.ofChord(0, 5));
        x.slacken(1, true);
        x.string(12);
        x.string(12);
        x.string(12);
        x.slacken(1, false);
        check.due("with six strings - 0 - - - - is fixed, the fifth of six", 4, () -> x.ofChord(0, 5));
    }

    private static void promise3() {
        check.about("tune: returns the one before");
        Tablature x = strung(1, 2, 3, 4, 5, 6);
        check.due("tune(0)", 1, () -> x.tune(0, 0));
        check.due("tune(0) again", 0, () -> x.tune(0, 60));
        check.due("tune(0) to the same", 60, () -> x.tune(0, 60));
        check.due("tune(5)", 6, () -> x.tune(5, 60));
        check.due("tune(5) again", 60, () -> x.tune(5, 6));
        check.due("the others stay", 2, () -> x.tune(1, 2));
        x.slacken(1, true);
        check.due("a slack one", 2, () -> x.tune(1, 20));
        check.due("which stays slack", 1, () -> x.many(1));
        check.about("Throws IllegalArgumentException if open is not 0 to 60");
        for (int wrong : new int[] {LEAST, -1, 61, MOST}) {
            check.refused("tune(5, " + wrong + ")", x, ARGUMENT, () -> x.tune(5, wrong));
        }
        check.due("still as it was", 6, () -> x.tune(5, 6));
    }

    private static void promise4() {
        check.about("slacken: returns how many are not SLACK then");
        Tablature x = strung(10, 10, 10, 10, 10, 10);
        for (int s = 0; s < 6; s++) {
            int string = s;
            check.due("slacken(" + s + ", true)", 5 - s, () -> x.slacken(string, true));
            check.due("slacken(" + s + ", true) again", 5 - s, () -> x.slacken(string, true));
        }
        for (int s = 5; s >= 0; s--) {
            int string = s;
            check.due("slacken(" + s + ", false)", 6 - s, () -> x.slacken(string, false));
            check.due("slacken(" + s + ", false) again", 6 - s, () -> x.slacken(string, false));
        }
        Tablature y = strung(10);
        check.due("the only one", 0, () -> y.slacken(0, true));
    }

    private static void promise5And6() {
        check.about("capo: returns the one before; throws IllegalArgumentException if it is not 0 to 7");
        Tablature x = full();
        check.due("capo(7)", 0, () -> x.capo(7));
        check.due("capo(7) again", 7, () -> x.capo(7));
        check.refused("capo(8)", x, ARGUMENT, () -> x.capo(8));
        check.refused("capo(-1)", x, ARGUMENT, () -> x.capo(-1));
        check.due("capo(0)", 7, () -> x.capo(0));
        check.about("reach: returns the one before; throws IllegalArgumentException if it is not 1 to 6");
        check.due("reach(6)", 3, () -> x.reach(6));
        check.due("reach(6) again", 6, () -> x.reach(6));
        check.refused("reach(7)", x, ARGUMENT, () -> x.reach(7));
        check.refused("reach(0)", x, ARGUMENT, () -> x.reach(0));
        check.due("reach(1)", 6, () -> x.reach(1));
        check.due("reach(3)", 1, () -> x.reach(3));
        Tablature y = new Tablature();
        check.same("without strings", y.capo(7) + " " + y.capo(0) + " " + y.reach(1) + " " + y.reach(6), "0 7 3 1");
    }

    private static void promise7() {
        check.about("fretOf: NONE without one, or if it is SLACK");
        Tablature x = strung(68 - 12, 0);
        check.due("just below", NONE, () -> x.fretOf(0, 55));
        check.due("the open one", 0, () -> x.fretOf(0, 56));
        check.due("the last one", 12, () -> x.fretOf(0, 68));
        check.due("just above", NONE, () -> x.fretOf(0, 69));
        x.capo(7);
        check.due("just below the capo", NONE, () -> x.fretOf(0, 62));
        check.due("at the capo", 0, () -> x.fretOf(0, 63));
        check.due("the last one with it", 5, () -> x.fretOf(0, 68));
        check.due("just above with it", NONE, () -> x.fretOf(0, 69));
        x.slacken(0, true);
        check.due("slack", NONE, () -> x.fretOf(0, 63));
        check.about("Throws IllegalArgumentException if pitch is not 0 to 80");
        check.due("0", NONE, () -> x.fretOf(0, 0));
        check.due("80", NONE, () -> x.fretOf(0, 80));
        for (int wrong : new int[] {LEAST, -1, 81, MOST}) {
            check.refused("slack, the pitch " + wrong, x, ARGUMENT, () -> x.fretOf(0, wrong));
            check.refused("the pitch " + wrong, x, ARGUMENT, () -> x.fretOf(1, wrong));
        }
    }

    private static void promise8() {
        check.about("Writes a CHORD at the end. Returns its number");
        Tablature x = strung(10);
        check.due("the first one", 0, () -> x.chord(10, NONE, NONE, NONE, 1));
        check.due("the second one", 1, () -> x.chord(11, NONE, NONE, NONE, 1));
        x.strike(0);
        check.due("behind what is left", 1, () -> x.chord(12, NONE, NONE, NONE, 2));
        check.same("in that order", ofChord(x, 0) + ", " + ofChord(x, 1), "1 11 11 1 1 -1, 1 12 12 2 1 -1");
        check.due("the same once more", 2, () -> x.chord(12, NONE, NONE, NONE, 2));
        check.about("Throws IllegalArgumentException if ..; IllegalStateException if there are 12");
        Tablature y = full();
        check.refused("twelve", y, STATE, () -> y.chord(0, NONE, NONE, NONE, 1));
        check.refused("twelve, four pitches", y, STATE, () -> y.chord(80, 0, 79, 1, 8));
        int[][] wrong = {{-1, -1, -1, -1, 1}, {81, -1, -1, -1, 1}, {0, -2, -1, -1, 1}, {0, -1, 81, -1, 1},
            {0, -1, -1, 81, 1}, {0, 0, -1, -1, 1}, {0, -1, -1, 0, 1}, {0, -1, 1, 1, 1}, {0, -1, -1, -1, 0},
            {0, -1, -1, -1, 9}};
        for (int[] w : wrong) {
            check.refused("twelve, " + java.util.Arrays.toString(w), y, ARGUMENT,
                    () -> y.chord(w[0], w[1], w[2], w[3], w[4]));
        }
        y.strike(11);
        check.due("eleven", 11, () -> y.chord(0, NONE, NONE, NONE, 1));
    }

    private static String lowest(Tablature x) {
        StringBuilder text = new StringBuilder();
        for (int c = 0; c < x.many(4); c++) {
            text.append(c == 0 ? "" : " ").append(x.ofChord(c, 1));
        }
        return text.toString();
    }

    private static void promise9() {
        check.about("Strikes a CHORD out; those behind it have a number less then. Returns how many are left");
        Tablature x = strung(10);
        for (int c = 0; c < 12; c++) {
            chord(x, 1, 20 + c);
        }
        check.due("the last of twelve", 11, () -> x.strike(11));
        check.same("is gone", lowest(x), "20 21 22 23 24 25 26 27 28 29 30");
        check.due("the first one", 10, () -> x.strike(0));
        check.same("is gone, too", lowest(x), "21 22 23 24 25 26 27 28 29 30");
        check.due("one between", 9, () -> x.strike(4));
        check.same("is gone, as well", lowest(x), "21 22 23 24 26 27 28 29 30");
        check.refused("just behind the last one", x, INDEX, () -> x.strike(9));
        for (int left = 8; left >= 0; left--) {
            check.due("the first of " + (left + 1), left, () -> x.strike(0));
        }
        check.refused("none is left", x, INDEX, () -> x.strike(0));
        check.same("then there is no plan", many(x) + ", " + x.total(), "1 0 0 3 0 0 0 -1, -1");
        check.due("the next one is the first again", 0, () -> x.chord(15, NONE, NONE, NONE, 1));
    }

    private static void promise9Fixed() {
        check.about("those behind it have a number less then: also what is FIXED of them");
        Tablature x = strung(5, 10);
        for (int c = 0; c < 4; c++) {
            chord(x, 1 + c, 12 + c);
        }
        x.fix(1, 1);
        x.fix(3, 0);
        x.strike(0);
        check.same("fixed", x.ofChord(0, 5) + " " + x.ofChord(1, 5) + " " + x.ofChord(2, 5), "1 -1 0");
        x.strike(2);
        check.due("the new one has none", 2, () -> x.chord(12, NONE, NONE, NONE, 1));
        check.same("fixed then", x.ofChord(0, 5) + " " + x.ofChord(1, 5) + " " + x.ofChord(2, 5), "1 -1 -1");
        x.strike(0);
        check.due("none is left", 0, () -> x.many(6));
        // the lengths of those that are left: 1 + 3 * 2 + 1 + 1
        check.same("lengths and total", x.ofChord(0, 3) + " " + x.ofChord(1, 3) + ", " + x.total(), "3 1, 9");
    }

    private static void promise10() {
        check.about("FIXES a GRIP of a CHORD, in place of one that was. Returns its EFFORT; 0 with NONE");
        Tablature x = strung(0, 5, 10);
        chord(x, 1, 2, 7);
        chord(x, 1, 10);
        check.due("a barre of 4", 4, () -> x.fix(0, 0));
        check.same("the grips", allFrets(x, 1), "- - 0, - 5 -, 10 - -");
        check.due("an open one", 0, () -> x.fix(1, 0));
        check.due("another one", 1, () -> x.fix(1, 2));
        check.due("in its place", 2, () -> x.ofChord(1, 5));
        check.due("the same again", 1, () -> x.fix(1, 2));
        check.due("none", 0, () -> x.fix(1, NONE));
        check.due("then none is", NONE, () -> x.ofChord(1, 5));
        check.due("none, where none is", 0, () -> x.fix(1, NONE));
        check.due("the other chord's is", 0, () -> x.ofChord(0, 5));
        check.about("Throws IndexOutOfBoundsException if there is no such GRIP (but NONE)");
        for (int wrong : new int[] {LEAST, -2, 3, 30, MOST}) {
            check.refused("of three the grip " + wrong, x, INDEX, () -> x.fix(1, wrong));
        }
        x.fix(1, 2);
        check.refused("of three the fourth one", x, INDEX, () -> x.fix(1, 3));
        check.due("what is fixed stays so", 2, () -> x.ofChord(1, 5));
        chord(x, 1, 80);
        check.refused("of none the first one", x, INDEX, () -> x.fix(2, 0));
        check.due("of none none", 0, () -> x.fix(2, NONE));
    }

    private static void promise11() {
        check.about("ofChord: 0 how many pitches, 1 the lowest one, 2 the highest one, 3 its LENGTH, 4 GRIPS, 5 FIXED");
        Tablature y = strung(60);
        chord(y, 8, 0);
        chord(y, 1, 80);
        check.same("0 alone, 80 alone", ofChord(y, 0) + ", " + ofChord(y, 1), "1 0 0 8 0 -1, 1 80 80 1 0 -1");
        Tablature x = strung(0, 0);
        chord(x, 8, 5);
        chord(x, 1, 80, 0);
        chord(x, 2, 3, 80, 0, 4);
        check.same("one pitch", ofChord(x, 0), "1 5 5 8 2 -1");
        check.same("the highest one first", ofChord(x, 1), "2 0 80 1 0 -1");
        check.same("four, none of them at its place", ofChord(x, 2), "4 0 80 2 0 -1");
        x.fix(0, 1);
        check.same("fixed", ofChord(x, 0), "1 5 5 8 2 1");
        x.tune(1, 50);
        check.same("fixed, with another number", ofChord(x, 0), "1 5 5 8 1 0");
        x.tune(0, 50);
        x.tune(1, 0);
        check.same("fixed, but none now", ofChord(x, 0), "1 5 5 8 1 -1");
        check.about("Throws IllegalArgumentException if what is not 0 to 5");
        for (int wrong : new int[] {LEAST, -1, 6, 7, MOST}) {
            check.refused("ofChord(0, " + wrong + ")", x, ARGUMENT, () -> x.ofChord(0, wrong));
            check.refused("ofChord(2, " + wrong + ")", x, ARGUMENT, () -> x.ofChord(2, wrong));
        }
    }

    private static void promise12() {
        check.about("ofGrip: 0 its EFFORT, 1 LOW, 2 HIGH, 3 FINGERS, 4 1 if it has a BARRE, 5 how many STRINGS sound");
        Tablature x = wide();
        gripped(x, 1, 2, 4, NONE, 2);
        gripped(x, 1, 0);
        check.same("2 4 - 2", ofGrip(x, 0, 0), "10 2 4 2 1 3");
        check.same("0", ofGrip(x, 1, 0), "0 0 0 0 0 1");
        check.about("Throws IllegalArgumentException if what is not 0 to 5");
        for (int wrong : new int[] {LEAST, -1, 6, 7, MOST}) {
            check.refused("ofGrip(0, 0, " + wrong + ")", x, ARGUMENT, () -> x.ofGrip(0, 0, wrong));
        }
    }

    private static void promise13And14() {
        check.about("fret: NONE, if it does not sound; finger: 0, if it is not PRESSED");
        Tablature x = wide();
        x.string(60);
        gripped(x, 1, 0, 12, NONE, 12);
        chord(x, 1, 72);
        check.same("0 12 - 12", frets(x, 0, 0) + ", " + fingers(x, 0, 0), "0 12 - 12 - -, 0 1 0 1 0 0");
        check.same("the sixth string", frets(x, 1, 0) + ", " + fingers(x, 1, 0), "- - - - - 12, 0 0 0 0 0 1");
        x.slacken(2, true);
        check.same("a slack one", x.fret(0, 0, 2) + " " + x.finger(0, 0, 2), "-1 0");
        check.refused("fret on a seventh", x, INDEX, () -> x.fret(0, 0, 6));
        check.refused("finger on a seventh", x, INDEX, () -> x.finger(0, 0, 6));
        Tablature y = strung(5, 9);
        chord(y, 1, 9);
        check.refused("fret just behind the last string", y, INDEX, () -> y.fret(0, 0, 2));
        check.refused("finger just behind the last string", y, INDEX, () -> y.finger(0, 0, 2));
        y.slacken(1, true);
        check.due("a string stays one when it is slack", NONE, () -> y.fret(0, 0, 1));
    }

    private static void promise15() {
        check.about("move: a CHORD, but the last one");
        Tablature x = strung(0, 0);
        chord(x, 1, 2);
        check.refused("the only one", x, INDEX, () -> x.move(0, 0, 0));
        chord(x, 1, 3);
        check.due("the first of two", 7, () -> x.move(0, 0, 0));
        check.refused("the last of two", x, INDEX, () -> x.move(1, 0, 0));
        check.due("the grips are asked each by its number", 7, () -> x.move(0, 1, 0));
        check.about("Throws if there is no such CHORD, none behind it, or no such GRIP");
        chord(x, 1, 40);
        check.refused("none of the next one's", x, INDEX, () -> x.move(1, 0, 0));
        chord(x, 1, 3);
        check.refused("none of its own", x, INDEX, () -> x.move(2, 0, 0));
        for (int wrong : new int[] {LEAST, -1, 2, 3, 30, MOST}) {
            check.refused("from the grip " + wrong, x, INDEX, () -> x.move(0, wrong, 0));
            check.refused("to the grip " + wrong, x, INDEX, () -> x.move(0, 0, wrong));
        }
        for (int wrong : new int[] {LEAST, -1, 3, 4, 11, 12, MOST}) {
            check.refused("of the chord " + wrong, x, INDEX, () -> x.move(wrong, 0, 0));
        }
        Tablature y = full();
        check.refused("the twelfth chord", y, INDEX, () -> y.move(11, 0, 0));
        check.due("the eleventh chord", y.move(10, 0, 0), () -> y.move(4, 0, 0));
    }

    private static void promise16() {
        check.about("plan: the number of its GRIP in THE PLAN; NONE without one");
        Tablature x = strung(5, 10);
        for (int c = 0; c < 12; c++) {
            chord(x, 1, 12);
        }
        check.same("twelve of the same", plan(x), "0 0 0 0 0 0 0 0 0 0 0 0");
        x.fix(11, 1);
        x.fix(0, 1);
        check.same("both ends fixed: 7 - all along", plan(x), "1 1 1 1 1 1 1 1 1 1 1 1");
        x.tune(1, 50);
        check.same("a number less, when the other string cannot", plan(x), "0 0 0 0 0 0 0 0 0 0 0 0");
        x.tune(0, 50);
        check.same("none", plan(x), "-1 -1 -1 -1 -1 -1 -1 -1 -1 -1 -1 -1");
        check.refused("a thirteenth one", x, INDEX, () -> x.plan(12));
        Tablature y = strung(0, 5);
        chord(y, 1, 13);
        chord(y, 1, 8);
        check.due("the first has one grip", 1, () -> y.ofChord(0, 4));
        y.fix(1, 1);
        check.same("the second one of two behind it", plan(y) + ", " + y.total(), "0 1, 3");
    }

    private static void promise16AfterEachChange() {
        check.about("plan: THE PLAN of what is so now");
        Tablature x = strung(5);
        chord(x, 1, 10);
        check.due("one string", 0, () -> x.plan(0));
        x.fix(0, 0);
        x.string(10);
        check.due("string", 1, () -> x.plan(0));
        x.fix(0, NONE);
        check.due("fix of none", 0, () -> x.plan(0));
        x.fix(0, 1);
        check.due("fix", 1, () -> x.plan(0));
        x.slacken(1, true);
        check.due("slacken", 0, () -> x.plan(0));
        x.slacken(0, true);
        check.due("slacken of both", NONE, () -> x.plan(0));
        x.slacken(0, false);
        check.due("slacken of one", 0, () -> x.plan(0));
        x.tune(0, 11);
        check.due("tune", NONE, () -> x.plan(0));
        x.tune(0, 10);
        check.due("tune again", 0, () -> x.plan(0));
        x.capo(1);
        check.due("capo", NONE, () -> x.plan(0));
        x.capo(0);
        chord(x, 1, 30);
        check.due("chord", NONE, () -> x.plan(0));
        x.strike(1);
        check.due("strike", 0, () -> x.plan(0));
        Tablature y = wide();
        gripped(y, 1, 1, 4);
        check.due("under 3", 0, () -> y.plan(0));
        y.reach(2);
        check.due("reach", NONE, () -> y.plan(0));
    }

    private static void promise17() {
        check.about("total: the TOTAL of THE PLAN; NONE without one");
        Tablature x = strung(0);
        check.due("without chords", NONE, () -> x.total());
        chord(x, 1, 0);
        check.due("0 is not NONE", 0, () -> x.total());
        for (int c = 1; c < 12; c++) {
            chord(x, 1, c % 2 == 1 ? 12 : 1);
        }
        // 11 efforts of 1, ten moves of 6 * 11 + 1
        check.due("the most of one string", 11 + 10 * 67, () -> x.total());
        x.slacken(0, true);
        check.due("without strings", NONE, () -> x.total());
    }

    private static void promise18() {
        check.about("hardest: from which the MOVE takes the most, of several the first one");
        Tablature x = strung(0);
        chord(x, 2, 2);
        chord(x, 2, 5);
        check.due("one move", 0, () -> x.hardest());
        chord(x, 2, 2);
        check.due("two the same", 0, () -> x.hardest());
        chord(x, 1, 6);
        check.due("the third one takes more", 2, () -> x.hardest());
        chord(x, 1, 4);
        check.due("the fourth one as much: 6 * 2 + 1", 2, () -> x.hardest());
        chord(x, 1, 1);
        check.due("the fifth one the most", 4, () -> x.hardest());
        check.about("hardest: NONE without a PLAN, or with one CHORD");
        chord(x, 1, 13);
        check.due("without a plan", NONE, () -> x.hardest());
        Tablature y = strung(0);
        check.due("without chords", NONE, () -> y.hardest());
        chord(y, 1, 0);
        check.due("with one", NONE, () -> y.hardest());
        chord(y, 1, 0);
        check.due("with two, whose move takes nothing", 0, () -> y.hardest());
        chord(y, 1, 0);
        check.due("with three", 0, () -> y.hardest());
        for (int c = 3; c < 10; c++) {
            chord(y, 1, 0);
        }
        chord(y, 1, 1);
        chord(y, 1, 2);
        check.due("the move to the last of twelve", 10, () -> y.hardest());
        y.strike(11);
        check.due("without that none takes anything", 0, () -> y.hardest());
        // 6 -, - 6, - 8: the moves are those of the plan, not of other grips
        Tablature z = strung(0, 5);
        chord(z, 1, 6);
        chord(z, 1, 11);
        chord(z, 1, 13);
        check.same("1 and 13", plan(z) + ", " + z.hardest() + ", " + z.many(7), "1 0 0, 1, 14");
    }

    private static void promise19() {
        check.about("many: 5 those that have no GRIP, 6 those of which a GRIP is FIXED, 7 the sum of all MOVES");
        Tablature x = strung(0, 0);
        x.slacken(1, true);
        x.capo(7);
        x.reach(6);
        for (int c = 0; c < 12; c++) {
            chord(x, 1, 12);
            x.fix(c, 0);
        }
        check.same("twelve fixed ones", many(x), "2 1 7 6 12 0 12 0");
        x.capo(6);
        check.same("none is so under another capo", many(x), "2 1 6 6 12 0 0 0");
        x.slacken(0, true);
        check.same("and none has a grip", many(x), "2 2 6 6 12 12 0 -1");
        x.slacken(0, false);
        x.strike(11);
        check.same("with eleven", many(x), "2 1 6 6 11 0 0 0");
        Tablature y = strung(0);
        chord(y, 1, 2);
        check.due("no move of one", 0, () -> y.many(7));
        chord(y, 2, 4);
        chord(y, 3, 1);
        check.due("6 * 2 + 1 + 3 * 3 + 1", 23, () -> y.many(7));
        check.due("and the efforts", 26, () -> y.total());
        y.strike(2);
        y.strike(1);
        y.strike(0);
        check.due("without a plan", NONE, () -> y.many(7));
        check.about("many: throws IllegalArgumentException if what is not 0 to 7");
        for (int wrong : new int[] {LEAST, -1, 8, 9, MOST}) {
            check.refused("many(" + wrong + ")", x, ARGUMENT, () -> x.many(wrong));
            check.refused("many(" + wrong + ") of none", y, ARGUMENT, () -> y.many(wrong));
        }
    }

    private static void promise20() {
        check.about("meanEffort: divided by the sum of all LENGTHS, not cut; 0 without one");
        Tablature x = strung(0);
        check.dueDouble("without chords", 0.0, () -> x.meanEffort());
        chord(x, 1, 5);
        check.dueDouble("1 of 1", 1.0, () -> x.meanEffort());
        x.strike(0);
        chord(x, 3, 5);
        check.dueDouble("a third", 1.0 / 3, () -> x.meanEffort());
        chord(x, 3, 5);
        check.dueDouble("two of six", 2.0 / 6, () -> x.meanEffort());
        chord(x, 1, 6);
        check.dueDouble("7 of 7", 1.0, () -> x.meanEffort());
        chord(x, 8, 13);
        check.dueDouble("without a plan", 0.0, () -> x.meanEffort());
        Tablature y = strung(0);
        for (int c = 0; c < 12; c++) {
            chord(y, 8, 0);
        }
        check.dueDouble("0 of 96", 0.0, () -> y.meanEffort());
        y.strike(0);
        chord(y, 8, 1);
        check.dueDouble("1 of 96", 1.0 / 96, () -> y.meanEffort());
    }

    private static void promise21To23() {
        check.about("shapes, shapeEffort, shapeFret: what is asked now counts, not what was");
        Tablature x = strung(36, 40, 43);
        check.same("0 4 7", x.shapes(145, 0, 1) + " " + x.shapeEffort(145, 0, 1) + ", " + shape(x, 145, 0, 1),
                "1 0, 0 0 0");
        check.same("0 4 7 on 4", x.shapes(145, 4, 1) + " " + x.shapeEffort(145, 4, 1) + ", " + shape(x, 145, 4, 1),
                "0 -1, - - -");
        check.due("0 4", 1, () -> x.shapes(17, 0, 1));
        check.same("0 4", x.shapeEffort(17, 0, 1) + ", " + shape(x, 17, 0, 1), "0, 0 0 -");
        // 0 or 12, then 0, 12 or none, then 9 or none: with 0 ahead five, with 12 ahead 12 12 -, 12 12 9 and 12 - 9
        check.same("0 4 from 9", x.shapes(17, 0, 9) + ", " + shape(x, 17, 0, 9), "8, 0 0 -");
        x.tune(2, 45);
        check.due("after tune", 0, () -> x.shapes(145, 0, 6));
        x.tune(2, 43);
        check.due("tuned back", 1, () -> x.shapes(145, 0, 1));
        x.slacken(2, true);
        check.due("after slacken", 0, () -> x.shapes(145, 0, 1));
        x.slacken(2, false);
        x.capo(2);
        check.same("after capo: 2 6 9", x.shapes(145, 0, 1) + " " + x.shapes(set(2, 6, 9), 2, 1), "0 1");
        x.capo(0);
        x.string(48);
        check.same("after string", shape(x, 145, 0, 1), "0 0 0 0");
        Tablature y = strung(0, 0);
        check.due("under 3", 2, () -> y.shapes(set(1, 4), 1, 1));
        y.reach(2);
        check.due("after reach", 0, () -> y.shapes(set(1, 4), 1, 1));
        check.due("its effort", NONE, () -> y.shapeEffort(set(1, 4), 1, 1));
        check.about("shapeFret: NONE, if it does not sound, or there is none");
        check.same("none", shape(y, set(1, 4), 1, 1), "- -");
        y.reach(3);
        y.string(5);
        check.same("the third one does not sound", shape(y, set(1, 4), 1, 1), "1 4 -");
        check.due("its effort", 8, () -> y.shapeEffort(set(1, 4), 1, 1));
    }

    private static void refused(String call, Tablature x, VoicingCall asked) {
        check.about(call + ": throws IllegalArgumentException if classes is not 1 to 4095, has more than 4");
        for (int wrong : new int[] {LEAST, LEAST + 1, -4096, -1, 0, 31, 63, 2047, 4095, 4096, 4097, 65537, MOST}) {
            check.refused(call + " of " + wrong, x, ARGUMENT, () -> asked.ask(wrong, 0, 1));
        }
        check.about(call + ": or bass is not one of them");
        for (int bass = 0; bass <= 11; bass++) {
            int asks = bass;
            if (bass != 0 && bass != 11) {
                check.refused(call + " of 0 and 11 on " + bass, x, ARGUMENT, () -> asked.ask(set(0, 11), asks, 1));
            }
        }
        for (int wrong : new int[] {LEAST, -32, -21, -1, 12, 32, 43, MOST}) {
            check.refused(call + " of 0 and 11 on " + wrong, x, ARGUMENT, () -> asked.ask(set(0, 11), wrong, 1));
        }
        check.about(call + ": or fret is not 1 to 9");
        for (int wrong : new int[] {LEAST, -1, 0, 10, 13, MOST}) {
            check.refused(call + " from " + wrong, x, ARGUMENT, () -> asked.ask(set(0, 11), 0, wrong));
        }
        check.about(call + ": at the edges it answers");
        int[][] right = {{1, 0, 1}, {1, 0, 9}, {2048, 11, 1}, {2048, 11, 9}, {3840, 11, 1}, {3840, 8, 9}, {15, 0, 9}};
        for (int[] r : right) {
            String answer = Check.answerOf(() -> asked.ask(r[0], r[1], r[2]));
            check.same(call + java.util.Arrays.toString(r), answer.startsWith("throws") ? answer : "", "");
        }
    }

    private static void promise21To23Refused() {
        Tablature x = full();
        refused("shapes", x, x::shapes);
        refused("shapeEffort", x, x::shapeEffort);
        refused("shapeFret", x, (classes, bass, fret) -> x.shapeFret(classes, bass, fret, 0));
        Tablature y = new Tablature();
        refused("shapes", y, y::shapes);
        refused("shapeEffort", y, y::shapeEffort);
    }

    private static void promise24() {
        check.about("totalWith: what the TOTAL would be with these; NONE without a PLAN");
        Tablature x = strung(10);
        check.due("without chords", NONE, () -> x.totalWith(0, 3));
        chord(x, 1, 17);
        check.due("no capo", 1, () -> x.totalWith(0, 1));
        check.due("6", 1, () -> x.totalWith(6, 6));
        check.due("7: an open one", 0, () -> x.totalWith(7, 1));
        chord(x, 1, 22);
        check.due("7: an open one, and the last fret", 1, () -> x.totalWith(7, 6));
        check.due("no capo: 1 + 6 * 5 + 1 + 1", 33, () -> x.totalWith(0, 3));
        chord(x, 1, 16);
        check.due("7: below the capo", NONE, () -> x.totalWith(7, 6));
        check.due("6: not", 1 + 31 + 1 + 0 + 0, () -> x.totalWith(6, 6));
        check.due("the total itself", x.total(), () -> x.totalWith(0, 3));
        Tablature y = wide();
        gripped(y, 1, 1, 7);
        for (int r = 1; r <= 6; r++) {
            int reach = r;
            check.due("the frets 1 and 7 under " + r, r == 6 ? 14 : NONE, () -> y.totalWith(0, reach));
        }
        check.due("without a plan, though, now", NONE, () -> y.total());
        check.about("totalWith: throws IllegalArgumentException if capo is not 0 to 7, or reach is not 1 to 6");
        for (int wrong : new int[] {LEAST, -1, 8, 12, MOST}) {
            check.refused("the capo " + wrong, x, ARGUMENT, () -> x.totalWith(wrong, 3));
        }
        for (int wrong : new int[] {LEAST, -1, 0, 7, MOST}) {
            check.refused("the reach " + wrong, x, ARGUMENT, () -> x.totalWith(0, wrong));
        }
    }

    private static void promise24Fixed() {
        check.about("what would be: nothing is changed; what is FIXED stays FIXED as far as it can");
        Tablature x = strung(5, 10);
        chord(x, 1, 12);
        chord(x, 1, 10);
        x.fix(0, 1);
        x.fix(1, 1);
        check.due("7 - and 5 -: 1 + 13 + 1", 15, () -> x.total());
        check.due("totalWith the same", 15, () -> x.totalWith(0, 3));
        check.due("totalWith another reach", 15, () -> x.totalWith(0, 1));
        check.due("totalWith a capo: - 1 and 4 -, or 6 - and 4 -", 15, () -> x.totalWith(1, 3));
        check.due("bestCapo: 2, with - 0 and 3 -; 5, with 2 - and 0 -, is as good", 2, () -> x.bestCapo());
        check.due("totalWithout the first: - 2, - 0", 1, () -> x.totalWithout(0));
        check.due("totalWithout the second", 15, () -> x.totalWithout(1));
        check.due("totalFixed(0, 0): - 2 to 5 -, 1 + 19 + 1", 21, () -> x.totalFixed(0, 0));
        check.due("totalFixed(1, 0): 7 - to - 0", 1, () -> x.totalFixed(1, 0));
        check.same("all is as it was", many(x) + ", " + plan(x) + ", " + x.ofChord(0, 5) + x.ofChord(1, 5),
                "2 0 0 3 2 0 2 13, 1 1, 11");
        // what is fixed, but none now, is so again where it is a grip
        x.capo(1);
        check.due("now it is none", 0, () -> x.many(6));
        check.due("totalWith the capo of before", 15, () -> x.totalWith(0, 3));
        x.capo(0);
        x.slacken(0, true);
        check.due("none on a slack string", 1, () -> x.total());
        check.due("nor with another reach", 1, () -> x.totalWith(0, 6));
        Tablature y = strung(5, 10, 10);
        chord(y, 1, 12);
        chord(y, 1, 10);
        check.due("nothing is fixed: - - 2, - - 0", 1, () -> y.totalWithout(1));
        y.fix(0, 2);
        y.fix(1, 2);
        check.due("7 - - and 5 - -, without the second, though - - 2 would be better", 15, () -> y.totalWithout(1));
        check.due("without the third", 15, () -> y.totalWithout(2));
        check.due("without the first", 1, () -> y.totalWithout(0));
        y.fix(1, NONE);
        check.due("7 - - alone, without the second: then - - 0", 1, () -> y.totalWithout(1));
        check.due("another one: - - 2", 1, () -> y.totalFixed(0, 0));
        check.due("and 5 - - behind 7 - -", 15, () -> y.totalFixed(1, 2));
    }

    private static void promise25() {
        check.about("bestCapo: with which the TOTAL would be the smallest, of several the smallest one");
        Tablature x = strung(10);
        check.due("without chords", NONE, () -> x.bestCapo());
        for (int c = 0; c <= 12; c++) {
            int capo = c;
            Tablature y = strung(10);
            chord(y, 1, 10 + c);
            check.due("the fret " + c, c <= 7 ? c : 0, () -> y.bestCapo());
            y.capo(7);
            check.due("the fret " + c + ", under a capo of 7", capo <= 7 ? capo : 0, () -> y.bestCapo());
        }
        chord(x, 1, 9);
        check.due("without any with a plan", NONE, () -> x.bestCapo());
        Tablature z = strung(10, 10);
        chord(z, 2, 11, 16);
        check.due("the frets 1 and 6: with a capo of 1 alone", 1, () -> z.bestCapo());
        z.reach(5);
        check.due("under a reach of 5 with none too, but that takes more", 1, () -> z.bestCapo());
        chord(z, 2, 10);
        check.due("10 needs no capo", 0, () -> z.bestCapo());
        z.reach(4);
        check.due("with the reach that is", NONE, () -> z.bestCapo());
    }

    private static void promise26() {
        check.about("totalWithout: what the TOTAL would be, if it was SLACK; NONE without a PLAN");
        Tablature x = strung(10, 10, 12, 12, 12, 12);
        chord(x, 1, 12, 14);
        check.due("one of four", 1, () -> x.totalWithout(5));
        x.slacken(3, true);
        x.slacken(4, true);
        check.due("without the last one: - 4 0", 1, () -> x.totalWithout(5));
        check.due("without a slack one, as it is", 1, () -> x.totalWithout(3));
        x.slacken(2, true);
        check.due("2 4", 6, () -> x.totalWithout(5));
        check.due("- 4 ... 0", 4, () -> x.totalWithout(0));
        x.slacken(5, true);
        check.due("with one string alone", NONE, () -> x.totalWithout(0));
        check.due("those that are slack", x.total(), () -> x.totalWithout(5));
        check.same("nothing is changed", many(x), "6 4 0 3 1 0 0 0");
        Tablature y = strung(10);
        check.due("without chords", NONE, () -> y.totalWithout(0));
        chord(y, 1, 10);
        check.due("without the only one", NONE, () -> y.totalWithout(0));
        check.due("with it", 0, () -> y.total());
    }

    private static void promise27() {
        check.about("totalFixed: what the TOTAL would be, if that was FIXED; NONE without a PLAN");
        Tablature x = strung(5, 10);
        chord(x, 1, 12);
        check.same("one chord", x.totalFixed(0, 0) + " " + x.totalFixed(0, 1), "1 1");
        chord(x, 1, 10);
        chord(x, 1, 12);
        check.due("the total", 2, () -> x.total());
        check.due("the last one's", 2, () -> x.totalFixed(2, 1));
        check.due("5 - between: 7 -, 5 -, 7 -", 3 + 13 + 13, () -> x.totalFixed(1, 1));
        x.fix(1, 1);
        check.due("in place of the one that is", 2, () -> x.totalFixed(1, 0));
        check.due("with it", 3 + 19 + 13, () -> x.totalFixed(2, 0));
        check.same("nothing is changed", x.ofChord(1, 5) + " " + x.ofChord(2, 5) + " " + x.total(), "1 -1 29");
        chord(x, 1, 9);
        check.due("a chord behind", 3 + 13 + 13 + 19 + 1, () -> x.totalFixed(1, 1));
        x.strike(3);
        chord(x, 1, 4);
        check.due("without a plan", NONE, () -> x.totalFixed(0, 1));
        check.refused("of the chord without a grip", x, INDEX, () -> x.totalFixed(3, 0));
    }

    /** The numbers of the checksum, asked one by one. */
    private static List<Integer> numbers(Tablature x) {
        List<Integer> v = new ArrayList<>();
        for (int what = 0; what <= 7; what++) {
            v.add(x.many(what));
        }
        for (int c = 0; c < x.many(4); c++) {
            for (int what = 0; what <= 5; what++) {
                v.add(x.ofChord(c, what));
            }
            int grip = x.plan(c);
            v.add(grip);
            for (int what = 0; what <= 5 && grip != NONE; what++) {
                v.add(x.ofGrip(c, grip, what));
            }
            for (int s = 0; s < x.many(0) && grip != NONE; s++) {
                v.add(x.fret(c, grip, s));
                v.add(x.finger(c, grip, s));
            }
        }
        v.add(x.total());
        v.add(x.hardest());
        v.add(x.bestCapo());
        for (int s = 0; s < x.many(0); s++) {
            v.add(x.totalWithout(s));
        }
        v.add(x.shapes(145, 0, 1));
        v.add(x.shapeEffort(145, 0, 1));
        return v;
    }

    private static BigInteger unbounded(List<Integer> numbers) {
        BigInteger d = BigInteger.valueOf(58104);
        for (int v : numbers) {
            d = d.multiply(BigInteger.valueOf(31)).add(BigInteger.valueOf(v));
        }
        return d;
    }

    private static void digestIs(String which, Tablature x) {
        check.due(which, unbounded(numbers(x)).longValue(), () -> x.digest());
    }

    private static void promise28() {
        check.about("digest: many(); CHORD by CHORD ..; total(), hardest(), bestCapo(); totalWithout(); shapes() ..");
        digestIs("of a new one", new Tablature());
        digestIs("without chords", strung(36, 40, 43));
        Tablature x = strung(36, 40, 43, 48);
        chord(x, 1, 40);
        digestIs("with one chord", x);
        x.fix(0, 1);
        digestIs("with a fixed one", x);
        chord(x, 3, 41, 50);
        chord(x, 3, 45, 53, 48);
        digestIs("with three", x);
        x.slacken(0, true);
        x.shapes(1, 0, 1);
        digestIs("with a slack string", x);
        x.capo(3);
        digestIs("without a plan", x);
        digestIs("full", full());
    }

    private static void promise28Wraps() {
        check.about("digest: wraps around as a 64-bit integer");
        // the largest number that d is for a new object lies between 2^64 and 2^65
        Tablature x = new Tablature();
        BigInteger d = unbounded(numbers(x));
        check.same("bits of a new one", "" + (d.bitLength() > 64), "true");
        check.same("a new one", "" + x.digest(), "" + d.mod(BigInteger.ONE.shiftLeft(64)).longValue());
        Tablature y = full();
        BigInteger e = unbounded(numbers(y));
        check.same("bits of a full one", "" + (e.bitLength() > 1000), "true");
        check.same("a full one", "" + y.digest(), "" + e.mod(BigInteger.ONE.shiftLeft(64)).longValue());
    }

    private interface OneNumber {
        long ask(int number);
    }

    /** Refused with what is never a number, and with those just behind the last one. */
    private static void refusedBehind(String call, Tablature x, int count, OneNumber asked) {
        for (int wrong : NEVER) {
            check.refused(call + " " + wrong + " of " + count, x, INDEX, () -> asked.ask(wrong));
        }
        check.refused(call + " " + count + " of " + count, x, INDEX, () -> asked.ask(count));
        check.refused(call + " " + (count + 1) + " of " + count, x, INDEX, () -> asked.ask(count + 1));
    }

    private static void noSuchString() {
        check.about("Throws IndexOutOfBoundsException if there is no such STRING");
        for (int strings = 0; strings <= 6; strings++) {
            Tablature x = new Tablature();
            for (int s = 0; s < strings; s++) {
                x.string(20);
            }
            chord(x, 1, 20);
            refusedBehind("tune", x, strings, s -> x.tune(s, 20));
            refusedBehind("slacken", x, strings, s -> x.slacken(s, true));
            refusedBehind("slacken not", x, strings, s -> x.slacken(s, false));
            refusedBehind("fretOf", x, strings, s -> x.fretOf(s, 20));
            refusedBehind("fret", x, strings, s -> x.fret(0, 0, s));
            refusedBehind("finger", x, strings, s -> x.finger(0, 0, s));
            refusedBehind("shapeFret", x, strings, s -> x.shapeFret(145, 0, 1, s));
            refusedBehind("totalWithout", x, strings, s -> x.totalWithout(s));
        }
    }

    private static void noSuchChord() {
        check.about("Throws IndexOutOfBoundsException if there is no such CHORD");
        for (int chords = 0; chords <= 12; chords++) {
            Tablature x = strung(20, 20);
            for (int c = 0; c < chords; c++) {
                chord(x, 1, 20);
            }
            refusedBehind("strike", x, chords, c -> x.strike(c));
            refusedBehind("fix", x, chords, c -> x.fix(c, 0));
            refusedBehind("fix none of", x, chords, c -> x.fix(c, NONE));
            refusedBehind("ofChord", x, chords, c -> x.ofChord(c, 0));
            refusedBehind("ofGrip", x, chords, c -> x.ofGrip(c, 0, 0));
            refusedBehind("fret", x, chords, c -> x.fret(c, 0, 0));
            refusedBehind("finger", x, chords, c -> x.finger(c, 0, 0));
            refusedBehind("move", x, Math.max(0, chords - 1), c -> x.move(c, 0, 0));
            refusedBehind("plan", x, chords, c -> x.plan(c));
            refusedBehind("totalFixed", x, chords, c -> x.totalFixed(c, 0));
        }
    }

    private static void noSuchGrip() {
        check.about("Throws IndexOutOfBoundsException if there is no such GRIP");
        for (int grips : new int[] {0, 1, 5, 30}) {
            Tablature x = grips == 0 ? strung(50, 50) : new Tablature();
            for (int s = 0; s < (grips == 30 ? 6 : grips); s++) {
                x.string(20);
            }
            int second = grips == 30 ? 21 : NONE;
            x.chord(20, second, NONE, NONE, 1);
            x.chord(20, second, NONE, NONE, 1);
            check.due("grips", grips, () -> x.ofChord(0, 4));
            refusedBehind("ofGrip", x, grips, g -> x.ofGrip(0, g, 0));
            refusedBehind("fret", x, grips, g -> x.fret(0, g, 0));
            refusedBehind("finger", x, grips, g -> x.finger(0, g, 0));
            refusedBehind("move from", x, grips, g -> x.move(0, g, 0));
            refusedBehind("move to", x, grips, g -> x.move(0, 0, g));
            refusedBehind("totalFixed", x, grips, g -> x.totalFixed(0, g));
            check.refused("fix -2", x, INDEX, () -> x.fix(0, -2));
            check.refused("fix the least", x, INDEX, () -> x.fix(0, LEAST));
            check.refused("fix behind the last one", x, INDEX, () -> x.fix(0, grips));
            check.refused("fix the most", x, INDEX, () -> x.fix(0, MOST));
        }
    }

    private static void theFirstNamedIsThrown() {
        check.about("If several exceptions apply, the one that is named first is thrown");
        Tablature x = full();
        check.refused("string", x, ARGUMENT, () -> x.string(61));
        check.refused("tune", x, INDEX, () -> x.tune(6, 61));
        check.refused("fretOf", x, INDEX, () -> x.fretOf(-1, 81));
        check.refused("chord by its pitch", x, ARGUMENT, () -> x.chord(81, NONE, NONE, NONE, 1));
        check.refused("chord by its length", x, ARGUMENT, () -> x.chord(1, NONE, NONE, NONE, 0));
        check.refused("chord by two the same", x, ARGUMENT, () -> x.chord(1, 2, NONE, 1, 1));
        check.refused("ofChord", x, INDEX, () -> x.ofChord(12, 6));
        check.refused("ofGrip by its chord", x, INDEX, () -> x.ofGrip(12, 0, 6));
        check.refused("ofGrip by its grip", x, INDEX, () -> x.ofGrip(0, 30, -1));
        check.refused("shapeFret by its classes", x, INDEX, () -> x.shapeFret(0, 0, 1, 6));
        check.refused("shapeFret by its bass", x, INDEX, () -> x.shapeFret(1, 1, 1, -1));
        check.refused("shapeFret by its fret", x, INDEX, () -> x.shapeFret(1, 0, 0, 6));
    }

    private static void askingChangesNothing() {
        check.about("what would be (nothing is changed)");
        Tablature x = full();
        x.reach(4);
        x.slacken(2, true);
        Tablature y = full();
        y.reach(4);
        y.slacken(2, true);
        for (int capo = 0; capo <= 7; capo++) {
            for (int reach = 1; reach <= 6; reach++) {
                x.totalWith(capo, reach);
            }
        }
        for (int s = 0; s < 6; s++) {
            x.totalWithout(s);
        }
        for (int c = 0; c < 12; c++) {
            for (int g = 0; g < x.ofChord(c, 4); g++) {
                x.totalFixed(c, g);
            }
        }
        x.bestCapo();
        check.same("the numbers of the checksum", numbers(x).toString(), numbers(y).toString());
        x.slacken(2, false);
        y.slacken(2, false);
        check.same("and those behind it", numbers(x).toString(), numbers(y).toString());
    }
}
