/** The sections 1 to 5 of the document: each sentence that has an edge, by itself, up to the edge and over it. */
public final class TermsTest extends Asking {
    private static Check check;

    public static void main(String[] args) {
        check = new Check("TermsTest");
        callsUpTo512();
        section1Strings();
        section1Capo();
        section1Frets();
        section1Slack();
        section2Chords();
        section2Pitches();
        section2Length();
        section3Grip();
        section3LowAndHigh();
        section3Barre();
        section3BarreIsCut();
        section3Fingers();
        section3Reach();
        section3NoFingerAbove4();
        section3Effort();
        section3Order();
        section3Only30();
        section3ThePlanHasOnly30();
        section4MoveOfNothing();
        section4MoveByLow();
        section4MoveByLength();
        section4MoveByString();
        section4FixedWheneverItIs();
        section4FixedByItsFrets();
        section4NoPlan();
        section4PlanOfFixed();
        section4PlanOfSeveral();
        section5Voicing();
        section5Frets();
        section5Playable();
        section5Classes();
        section5Bass();
        section5TheBestOne();
        section5More30();
        check.end();
    }

    private static void callsUpTo512() {
        check.about("An object is used for at most 512 calls after it has been made");
        Tablature x = strung(28, 33, 38, 43, 47, 52);
        Tablature y = strung(28, 33, 38, 43, 47, 52);
        for (int c = 0; c < 12; c++) {
            chord(x, 1 + c % 8, 40 + c % 5, 47, 52 + c % 3);
            chord(y, 1 + c % 8, 40 + c % 5, 47, 52 + c % 3);
        }
        long before = y.digest();
        for (int call = 19; call < 512; call++) {
            String answer = Check.answerOf(call % 3 == 0 ? () -> x.strike(12) : () -> x.digest());
            check.same("call " + call, answer, call % 3 == 0 ? "throws.IndexOutOfBoundsException" : "" + before);
        }
        check.due("the 512th call", before, () -> x.digest());
    }

    private static void section1Strings() {
        check.about("STRINGS: at most 6, numbered from 0");
        Tablature x = new Tablature();
        for (int s = 0; s < 6; s++) {
            int number = s;
            check.due("many(0) ahead of string " + s, s, () -> x.many(0));
            check.due("string " + s, s, () -> x.string(10));
        }
        check.refused("a seventh one", x, STATE, () -> x.string(10));
        check.due("many(0) behind it", 6, () -> x.many(0));
        chord(x, 1, 10);
        check.same("all six are used", allFrets(x, 0), "- - - - - 0, - - - - 0 -, - - - 0 - -, - - 0 - - -, "
                + "- 0 - - - -, 0 - - - - -");

        check.about("each with an OPEN pitch, 0 to 60");
        Tablature y = strung(0, 60);
        check.due("the pitch 0", 0, () -> y.fretOf(0, 0));
        check.due("the pitch 60", 0, () -> y.fretOf(1, 60));
        for (int wrong : new int[] {LEAST, -61, -1, 61, 80, MOST}) {
            check.refused("string " + wrong, y, ARGUMENT, () -> y.string(wrong));
            check.refused("tune to " + wrong, y, ARGUMENT, () -> y.tune(0, wrong));
        }
        check.due("tune to 60", 0, () -> y.tune(0, 60));
        check.due("tune to 0", 60, () -> y.tune(1, 0));
        check.due("the pitch 60 then", 0, () -> y.fretOf(0, 60));
        check.due("the pitch 0 then", 0, () -> y.fretOf(1, 0));
    }

    private static void section1Capo() {
        check.about("There is a CAPO, 0 to 7 (0, at first)");
        Tablature x = strung(20);
        check.due("at first", 0, () -> x.many(2));
        check.due("capo(0)", 0, () -> x.capo(0));
        for (int c = 1; c <= 7; c++) {
            int capo = c;
            check.due("capo(" + c + ")", c - 1, () -> x.capo(capo));
            check.due("many(2) under " + c, c, () -> x.many(2));
        }
        for (int wrong : new int[] {LEAST, -1, 8, 12, MOST}) {
            check.refused("capo(" + wrong + ")", x, ARGUMENT, () -> x.capo(wrong));
        }
        check.due("capo(7) again", 7, () -> x.capo(7));
        check.due("capo(0) again", 7, () -> x.capo(0));
    }

    private static void section1Frets() {
        for (int c = 0; c <= 7; c++) {
            int capo = c;
            Tablature x = strung(20, 60, 0);
            x.capo(c);
            String under = " under a capo of " + c;
            check.about("A STRING has the FRETS 0 to 12 - CAPO; it sounds the pitch OPEN + CAPO + f");
            for (int p = 0; p <= 80; p++) {
                int pitch = p;
                for (int s = 0; s < 3; s++) {
                    int string = s;
                    int fret = p - (s == 0 ? 20 : s == 1 ? 60 : 0) - c;
                    check.due("fretOf(" + s + ", " + p + ")" + under, fret >= 0 && fret <= 12 - c ? fret : NONE,
                            () -> x.fretOf(string, pitch));
                }
            }
            check.about("A STRING has the FRETS 0 to 12 - CAPO, in grips too");
            chord(x, 1, 19 + c);
            chord(x, 1, 20 + c);
            chord(x, 1, 32);
            chord(x, 1, 33);
            check.same("below the first fret" + under, allFrets(x, 0), "");
            check.same("the first fret" + under, allFrets(x, 1), "0 - -");
            check.same("the last fret" + under, allFrets(x, 2), 12 - c + " - -");
            check.same("over the last fret" + under, allFrets(x, 3), "");
            check.about("A STRING has the FRETS 0 to 12 - CAPO, in shapes too");
            Tablature y = strung(20);
            y.capo(c);
            // the pitch 32 has the class 8, as the open string under no capo; 33 has the class 9, as the
            // open string under a capo of 1
            check.due("the last fret" + under, c == 0 ? 2 : 1, () -> y.shapes(set(8), 8, Math.min(9, 12 - capo)));
            check.due("over the last fret" + under, c == 1 ? 1 : 0,
                    () -> y.shapes(set(9), 9, Math.min(9, 13 - capo)));
        }
    }

    private static void section1Slack() {
        check.about("One can be SLACK: it is not used then");
        Tablature x = strung(10, 10);
        chord(x, 1, 12);
        check.due("many(1) at first", 0, () -> x.many(1));
        check.due("slacken(0)", 1, () -> x.slacken(0, true));
        check.due("many(1)", 1, () -> x.many(1));
        check.same("not in a grip", allFrets(x, 0), "- 2");
        check.due("not by a fret", NONE, () -> x.fretOf(0, 12));
        check.due("the other one still", 2, () -> x.fretOf(1, 12));
        check.due("not in a shape", 1, () -> x.shapes(set(0), 0, 1));
        check.due("slacken(1)", 0, () -> x.slacken(1, true));
        check.due("many(1) of all", 2, () -> x.many(1));
        check.same("no string, no grip", allFrets(x, 0), "");
        check.due("no string, no plan", NONE, () -> x.total());
        check.due("no string, no shape", 0, () -> x.shapes(set(0), 0, 1));
        check.due("not slack any more", 1, () -> x.slacken(0, false));
        check.same("used again", allFrets(x, 0), "2 -");
        check.due("in a shape again", 1, () -> x.shapes(set(0), 0, 1));
        check.due("tuned while it is slack", 10, () -> x.tune(1, 11));
        check.due("neither is slack", 2, () -> x.slacken(1, false));
        check.same("used with what it was tuned to", allFrets(x, 0), "- 1, 2 -");
        x.slacken(1, true);
        check.due("a new one is not slack", 2, () -> x.string(12));
        check.due("many(1) behind it", 1, () -> x.many(1));
        check.same("and is used", allFrets(x, 0), "- - 0, 2 - -");
    }

    private static void section2Chords() {
        check.about("CHORDS: at most 12, numbered from 0 one behind the other");
        Tablature x = strung(10);
        for (int c = 0; c < 12; c++) {
            int number = c;
            check.due("many(4) ahead of chord " + c, c, () -> x.many(4));
            check.due("chord " + c, c, () -> x.chord(10 + number, NONE, NONE, NONE, 1));
        }
        check.refused("a thirteenth one", x, STATE, () -> x.chord(10, NONE, NONE, NONE, 1));
        check.due("many(4) behind it", 12, () -> x.many(4));
        for (int c = 0; c < 12; c++) {
            int number = c;
            check.due("the pitch of chord " + c, 10 + c, () -> x.ofChord(number, 1));
        }
        check.due("the frets 0 to 11, a move of 1 for each, and 6 from 1 on", 11 + 10 * 7, () -> x.total());
        check.due("one struck out", 11, () -> x.strike(0));
        check.due("room for one more", 11, () -> x.chord(21, NONE, NONE, NONE, 1));
        check.refused("but not for two", x, STATE, () -> x.chord(10, NONE, NONE, NONE, 1));
    }

    private static void section2Pitches() {
        check.about("each of 1 to 4 different pitches");
        int[][] written = {{5, -1, -1, -1}, {5, 6, -1, -1}, {5, -1, 6, -1}, {5, -1, -1, 6}, {5, 6, 7, -1},
            {5, 6, -1, 7}, {5, -1, 6, 7}, {5, 6, 7, 8}};
        String[] due = {"1 5 5", "2 5 6", "2 5 6", "2 5 6", "3 5 7", "3 5 7", "3 5 7", "4 5 8"};
        Tablature x = strung(0, 0, 0, 0);
        for (int c = 0; c < written.length; c++) {
            int[] w = written[c];
            x.chord(w[0], w[1], w[2], w[3], 8);
            check.same(java.util.Arrays.toString(w), x.ofChord(c, 0) + " " + x.ofChord(c, 1) + " " + x.ofChord(c, 2),
                    due[c]);
        }
        check.refused("without a first one", x, ARGUMENT, () -> x.chord(NONE, 5, NONE, NONE, 8));
        check.refused("without any", x, ARGUMENT, () -> x.chord(NONE, NONE, NONE, NONE, 8));
        for (int same : new int[] {0, 40, 80}) {
            int[][] twice = {{same, same, 1, 2}, {same, 1, same, 2}, {same, 1, 2, same}, {1, same, same, 2},
                {1, same, 2, same}, {1, 2, same, same}, {same, same, -1, -1}, {same, -1, -1, same},
                {1, -1, same, same}};
            for (int[] w : twice) {
                check.refused("two the same of " + java.util.Arrays.toString(w), x, ARGUMENT,
                        () -> x.chord(w[0], w[1], w[2], w[3], 8));
            }
        }
        check.due("none of them was written", 8, () -> x.many(4));

        check.about("pitches, 0 to 80");
        Tablature y = strung(0);
        int[][] edges = {{0, 80, 1, 79}, {80, 0, 79, 1}, {1, 79, 0, 80}, {79, 1, 80, 0}};
        for (int c = 0; c < edges.length; c++) {
            int[] w = edges[c];
            y.chord(w[0], w[1], w[2], w[3], 1);
            check.same(java.util.Arrays.toString(w), ofChord(y, c), "4 0 80 1 0 -1");
        }
        for (int wrong : new int[] {LEAST, -80, -2, 81, 100, MOST}) {
            for (int place = 0; place < 4; place++) {
                int[] w = {1, 2, 3, 4};
                w[place] = wrong;
                check.refused(wrong + " at the place " + place, y, ARGUMENT, () -> y.chord(w[0], w[1], w[2], w[3], 1));
            }
        }
    }

    private static void section2Length() {
        check.about("with a LENGTH, 1 to 8");
        Tablature x = strung(0);
        for (int l = 1; l <= 8; l++) {
            int number = l - 1;
            int length = l;
            check.due("a length of " + l, number, () -> x.chord(0, NONE, NONE, NONE, length));
            check.due("which it has", l, () -> x.ofChord(number, 3));
        }
        for (int wrong : new int[] {LEAST, -1, 0, 9, MOST}) {
            check.refused("a length of " + wrong, x, ARGUMENT, () -> x.chord(0, NONE, NONE, NONE, wrong));
        }
    }

    private static void section3Grip() {
        check.about("A GRIP is, for each STRING, a FRET, or NONE; NONE for a SLACK one");
        Tablature x = strung(10, 10, 10);
        x.slacken(1, true);
        chord(x, 1, 10, 12);
        check.same("grips", allFrets(x, 0), "0 - 2, 2 - 0");
        check.due("no finger on the slack one", 0, () -> x.finger(0, 0, 1));

        check.about("each pitch of it is sounded by just one STRING, and no STRING sounds another pitch");
        Tablature y = strung(10, 10);
        chord(y, 1, 10);
        check.same("one string alone", allFrets(y, 0), "- 0, 0 -");
        chord(y, 1, 10, 11, 12);
        check.same("three pitches, two strings", allFrets(y, 1), "");
        Tablature z = strung(0);
        chord(z, 1, 1, 2);
        check.same("two pitches, one string", allFrets(z, 0), "");
        Tablature v = wide();
        gripped(v, 1, 1, 1, 1, 2);
        check.same("four pitches, four strings of five", allFrets(v, 0), "1 1 1 2 -");
        chord(v, 1, 0, 13, 26, 80);
        check.same("one of the four on no string", allFrets(v, 1), "");

        check.about("A STRING with a FRET sounds; one with a FRET above 0 is PRESSED");
        gripped(v, 1, 0, 0, NONE, 0, 0);
        check.same("four open ones sound, none is pressed", ofGrip(v, 2, 0), "1 0 0 0 0 4");
        gripped(v, 1, 1);
        check.same("the fret 1 is pressed", ofGrip(v, 3, 0), "1 1 1 1 0 1");
        check.same("by a finger", fingers(v, 3, 0), "1 0 0 0 0");
        gripped(v, 1, 0);
        check.same("the fret 0 is not", ofGrip(v, 4, 0), "0 0 0 0 0 1");
        check.same("by none", fingers(v, 4, 0), "0 0 0 0 0");
    }

    /** Asks ofGrip() for the one grip with these frets, on strings of which each pitch lies on one alone. */
    private static void grip(String due, int... frets) {
        Tablature x = wide();
        x.reach(6);
        gripped(x, 1, frets);
        check.same("ofGrip() of " + frets(x, 0, 0), ofGrip(x, 0, 0), due);
    }

    private static void section3LowAndHigh() {
        check.about("LOW and HIGH are the smallest and the greatest FRET of those that are PRESSED (0, if none is)");
        grip("0 0 0 0 0 1", NONE, NONE, 0);
        grip("1 1 1 1 0 1", NONE, NONE, 1);
        grip("1 12 12 1 0 1", 12);
        grip("1 9 9 1 0 2", 0, 9);
        grip("1 9 9 1 0 4", 0, 9, 0, 0);
        grip("6 2 4 2 0 2", 2, 4);
        grip("6 2 4 2 0 2", 4, 2);
        grip("9 2 5 3 0 3", 3, 5, 2);
    }

    private static void section3Barre() {
        check.about("It has a BARRE, if two or more are PRESSED at LOW");
        grip("1 2 2 1 0 1", 2);
        grip("4 2 2 1 1 2", 2, 2);
        grip("4 1 1 1 1 2", 1, 1);
        grip("4 12 12 1 1 2", 12, 12);
        grip("4 2 2 1 1 3", 2, 2, 2);
        grip("4 2 2 1 1 4", 2, 2, 2, 2);
        grip("0 0 0 0 0 2", 0, 0);
        grip("5 2 3 3 0 3", 2, 3, 3);
        grip("5 2 3 3 0 3", 3, 3, 2);
        grip("8 2 3 3 1 4", 2, 3, 3, 2);
    }

    private static void section3BarreIsCut() {
        check.about("and no STRING between the first one of these and the last one has the FRET 0");
        grip("2 2 2 2 0 3", 2, 0, 2);
        grip("3 2 2 3 0 4", 2, 0, 2, 2);
        grip("3 2 2 3 0 4", 2, 2, 0, 2);
        grip("3 2 2 2 0 3", 2, NONE, 0, 2);
        grip("3 2 2 2 0 3", 2, 0, NONE, 2);
        grip("5 2 3 3 0 4", 2, 0, 3, 2);
        check.about("a FRET 0 ahead of the first one or behind the last one is not between them");
        grip("4 2 2 1 1 3", 0, 2, 2);
        grip("4 2 2 1 1 3", 2, 2, 0);
        grip("4 2 2 1 1 4", 0, 2, 2, 0);
        grip("7 2 3 2 1 4", 2, 2, 0, 3);
        check.about("a STRING between them without a FRET, or with another one, cuts nothing");
        grip("5 2 2 1 1 2", 2, NONE, 2);
        grip("7 2 2 1 1 2", 2, NONE, NONE, NONE, 2);
        grip("7 2 3 2 1 3", 2, 3, 2);
        Tablature x = wide();
        gripped(x, 1, 2, NONE, 2);
        x.slacken(1, true);
        check.same("nor a slack one", ofGrip(x, 0, 0), "5 2 2 1 1 2");
    }

    private static void fingersOf(String due, int... frets) {
        Tablature x = wide();
        gripped(x, 1, frets);
        check.same("fingers of " + frets(x, 0, 0), fingers(x, 0, 0), due);
    }

    private static void section3Fingers() {
        check.about("FINGERS: those that are PRESSED have one each, by FRETS, the smallest first");
        fingersOf("1 0 0 0 0", 5);
        fingersOf("4 3 2 1 0", 4, 3, 2, 1);
        fingersOf("1 2 3 4 0", 1, 2, 3, 4);
        fingersOf("2 0 3 1 0", 2, 0, 4, 1);
        check.about("of the same FRET by STRINGS");
        fingersOf("2 1 3 0 0", 3, 1, 3, 0);
        fingersOf("2 3 4 1 0", 3, 3, 3, 2);
        fingersOf("1 0 2 3 0", 2, 0, 2, 3);
        fingersOf("3 1 0 2 0", 3, 2, 0, 2);
        check.about("but with a BARRE all that are PRESSED at LOW have the FINGER 1 together, the others from 2");
        fingersOf("1 1 0 0 0", 2, 2);
        fingersOf("1 1 1 1 0", 2, 2, 2, 2);
        fingersOf("1 1 2 3 0", 2, 2, 3, 3);
        fingersOf("2 3 1 1 0", 3, 3, 2, 2);
        fingersOf("3 1 2 1 0", 3, 1, 2, 1);
        fingersOf("0 1 0 1 2", 0, 1, NONE, 1, 4);
    }

    private static void section3Reach() {
        check.about("PLAYABLE, if HIGH - LOW is not more than REACH (1 to 6; 3, at first)");
        Tablature x = wide();
        for (int span = 0; span <= 8; span++) {
            gripped(x, 1, 1, 1 + span);
        }
        gripped(x, 1, 0, 12);
        check.due("at first", 3, () -> x.many(3));
        check.due("just as much, at first", 1, () -> x.ofChord(3, 4));
        check.due("one more, at first", 0, () -> x.ofChord(4, 4));
        int before = 3;
        for (int r = 1; r <= 6; r++) {
            int reach = r;
            check.due("reach(" + r + ")", before, () -> x.reach(reach));
            before = r;
            for (int s = 0; s <= 8; s++) {
                int span = s;
                check.due("the frets 1 and " + (1 + s) + " under a reach of " + r, s <= r ? 1 : 0,
                        () -> x.ofChord(span, 4));
            }
            check.due("an open one is no LOW", 1, () -> x.ofChord(9, 4));
        }
        for (int wrong : new int[] {LEAST, -1, 0, 7, MOST}) {
            check.refused("reach(" + wrong + ")", x, ARGUMENT, () -> x.reach(wrong));
        }
        check.due("still as before", 6, () -> x.many(3));
    }

    private static void section3NoFingerAbove4() {
        check.about("and it has no FINGER above 4");
        Tablature x = wide();
        gripped(x, 1, 1, 2, 3, 4);
        check.due("four fingers", 4, () -> x.ofGrip(0, 0, 3));
        // a chord has at most four pitches: only shapes can need more. Each string has NONE, 1 or 2, not all the
        // same: 3^5 - 2 * 2^5 + 1 on five, 3^6 - 2 * 2^6 + 1 on six; five fingers: 1 2 2 2 2 in any order on five;
        // on six also 1 1 2 2 2 2, which has a barre, and six with 1 2 2 2 2 2
        Tablature y = strung(0, 0, 0, 0, 0);
        check.due("five of 180 need five fingers", 175, () -> y.shapes(set(1, 2), 1, 1));
        y.string(0);
        check.due("30 + 6 + 15 of 602 need more than four", 551, () -> y.shapes(set(1, 2), 1, 1));
        // NONE, 0 or 1: five at 1 are a barre, or five fingers if the open one cuts it
        check.due("four of 602 need five fingers", 598, () -> y.shapes(set(0, 1), 0, 1));
    }

    private static void section3Effort() {
        check.about("EFFORT: 2 * (HIGH - LOW)");
        grip("2 5 5 2 0 3", 5, 0, 5);
        grip("4 5 6 2 0 2", 5, 6);
        grip("14 5 11 2 0 2", 5, 11);
        check.about("EFFORT: how many FINGERS it has");
        grip("0 0 0 0 0 4", 0, 0, 0, 0);
        grip("1 5 5 1 0 4", 0, 5, 0, 0);
        grip("5 5 6 3 0 3", 5, 6, 6);
        grip("6 5 6 4 0 4", 5, 6, 6, 6);
        check.about("EFFORT: 3, if it has a BARRE");
        grip("4 5 5 1 1 2", 5, 5);
        grip("8 5 6 3 1 4", 5, 5, 6, 6);
        check.about("EFFORT: 1 for each STRING that does not sound between two that do");
        grip("1 0 0 0 0 2", 0, NONE, 0);
        grip("3 0 0 0 0 2", 0, NONE, NONE, NONE, 0);
        grip("2 0 0 0 0 3", 0, NONE, 0, NONE, 0);
        grip("2 0 0 0 0 3", 0, NONE, NONE, 0, 0);
        grip("0 0 0 0 0 1", NONE, NONE, NONE, NONE, 0);
        grip("0 0 0 0 0 2", NONE, NONE, 0, 0, NONE);
        grip("0 0 0 0 0 1", 0, NONE, NONE, NONE, NONE);
        check.about("EFFORT: SLACK or not");
        Tablature x = wide();
        gripped(x, 1, NONE, 0, NONE, 0);
        x.slacken(2, true);
        check.same("a slack one between", ofGrip(x, 0, 0), "1 0 0 0 0 2");
        x.slacken(0, true);
        x.slacken(4, true);
        check.same("slack ones on both sides", ofGrip(x, 0, 0), "1 0 0 0 0 2");
        x.slacken(2, false);
        check.same("one that is not slack between", ofGrip(x, 0, 0), "1 0 0 0 0 2");
    }

    private static void section3Order() {
        check.about("numbered from 0: the smallest EFFORT first");
        Tablature x = strung(5, 0);
        chord(x, 1, 5);
        check.same("by frets it would be the other way", allFrets(x, 0), "0 -, - 5");
        check.about("of the same EFFORT that with the smaller FRET (NONE is smaller than 0)");
        Tablature y = strung(10, 10, 10);
        chord(y, 1, 10);
        check.same("NONE and 0", allFrets(y, 0), "- - 0, - 0 -, 0 - -");
        chord(y, 1, 11);
        check.same("NONE and 1", allFrets(y, 1), "- - 1, - 1 -, 1 - -");
        y.slacken(2, true);
        chord(y, 1, 10, 11);
        check.same("0 and 1", allFrets(y, 2), "0 1 -, 1 0 -");
        chord(y, 1, 19, 20);
        check.same("9 and 10", allFrets(y, 3), "9 10 -, 10 9 -");
        chord(y, 1, 21, 22);
        check.same("11 and 12", allFrets(y, 4), "11 12 -, 12 11 -");
        y.slacken(2, false);
        check.about("of the first STRING for which they are not the same");
        chord(y, 1, 10, 11, 12);
        check.same("all of one effort", allFrets(y, 5), "0 1 2, 0 2 1, 1 0 2, 1 2 0, 2 0 1, 2 1 0");
    }

    private static void section3Only30() {
        check.about("Only the first 30 count");
        Tablature x = strung(10, 10, 10, 10, 10, 10);
        chord(x, 1, 11, 12);
        check.due("just 30, none too many", 30, () -> x.ofChord(0, 4));
        check.same("the last but one", frets(x, 0, 28), "1 - - - - 2");
        check.same("the last one", frets(x, 0, 29), "2 - - - - 1");
        chord(x, 1, 11, 12, 13);
        check.due("30 of 120", 30, () -> x.ofChord(1, 4));
        check.same("the last of the smallest effort", frets(x, 1, 23), "3 2 1 - - -");
        check.same("the last one of 120", frets(x, 1, 29), "- - 2 - 3 1");
        check.due("fix(1, 29)", 8, () -> x.fix(1, 29));
        check.due("totalFixed(0, 29): from 2 - - - - 1, 8 + 2 + 8", 18, () -> x.totalFixed(0, 29));
        check.refused("ofGrip", x, INDEX, () -> x.ofGrip(1, 30, 0));
        check.refused("fret", x, INDEX, () -> x.fret(1, 30, 0));
        check.refused("finger", x, INDEX, () -> x.finger(1, 30, 0));
        check.refused("move from it", x, INDEX, () -> x.move(0, 30, 0));
        check.refused("move to it", x, INDEX, () -> x.move(0, 0, 30));
        check.refused("fix", x, INDEX, () -> x.fix(1, 30));
        check.refused("totalFixed", x, INDEX, () -> x.totalFixed(1, 30));
    }

    private static void section3ThePlanHasOnly30() {
        check.about("they are its GRIPS in all that follows");
        Tablature x = strung(10, 10, 10, 10, 10, 10);
        for (int c = 0; c < 3; c++) {
            chord(x, 1, 10, 11, 12, 13);
            x.ofChord(c, 4);
        }
        int asked = numberOf(x, 0, "- - 2 1 0 3");
        x.strike(1);
        x.strike(1);
        chord(x, 1, 11, 12, 13);
        chord(x, 1, 10, 11, 12, 13);
        x.fix(0, asked);
        x.fix(2, asked);
        // - - 2 1 - 3, the 31st of the second chord, would need no move: 7 + 8 + 7
        check.due("the total: 7 + 7 + 7 and two moves of 1", 23, () -> x.total());
        // not among the 30 of six strings, but one of those of the four last ones
        x.slacken(0, true);
        x.slacken(1, true);
        check.due("where it is one of the 30", 22, () -> x.total());
    }

    private static int numberOf(Tablature x, int chord, String frets) {
        for (int g = 0; g < x.ofChord(chord, 4); g++) {
            if (frets(x, chord, g).equals(frets)) {
                return g;
            }
        }
        check.same("a grip " + frets, "", "one");
        return NONE;
    }

    /** What it takes to come from the one grip to the other one, on strings of which each pitch is on one alone. */
    private static void move(int due, int length, int nextLength, int[] from, int... to) {
        Tablature x = wide();
        x.reach(6);
        gripped(x, length, from);
        gripped(x, nextLength, to);
        check.due("from " + frets(x, 0, 0) + " (" + length + ") to " + frets(x, 1, 0), due, () -> x.move(0, 0, 0));
        check.due("many(7)", due, () -> x.many(7));
    }

    private static int[] from(int... frets) {
        return frets;
    }

    private static void section4MoveOfNothing() {
        check.about("To MOVE takes: 0, if nothing is PRESSED in the one or in the other one");
        move(0, 1, 1, from(0, 0), 0, 0);
        move(0, 1, 1, from(0, 0), 12, 12);
        move(0, 1, 1, from(12, 12), 0, 0);
        move(0, 8, 8, from(0), 1, 0, 3);
        move(0, 8, 8, from(1, 0, 3), NONE, 0);
        move(1, 1, 1, from(1), 0, 1);
    }

    private static void section4MoveByLow() {
        check.about("otherwise 3 times the difference of their LOW");
        Tablature x = strung(0);
        for (int first = 0; first <= 12; first++) {
            for (int second = 0; second <= 12; second++) {
                chord(x, 2, first);
                chord(x, 1, second);
                int due = first == 0 || second == 0 || first == second ? 0 : 3 * Math.abs(first - second) + 1;
                check.due("from " + first + " to " + second, due, () -> x.move(0, 0, 0));
                x.strike(0);
                x.strike(0);
            }
        }
        move(0, 2, 1, from(5), 5);
        move(4, 2, 1, from(5), 6);
        move(4, 2, 1, from(6), 5);
        move(34, 2, 1, from(1), 12);
        move(34, 2, 1, from(12), 1);
        // the lows are 2 and 4, though neither is the first or the last one pressed
        move(9, 2, 1, from(3, 2, 4), 5, 4, 7);
        move(8, 2, 1, from(4, 0, 2), 5, 0, 4);
    }

    private static void section4MoveByLength() {
        check.about("(6 times that, if the LENGTH of the CHORD of the first one is 1)");
        move(7, 1, 2, from(5), 6);
        move(13, 1, 8, from(5), 7);
        move(7, 2, 1, from(5), 7);
        move(7, 3, 1, from(5), 7);
        move(7, 8, 1, from(5), 7);
        move(13, 1, 1, from(7), 5);
        move(1, 1, 1, from(5), NONE, 5);
    }

    private static void section4MoveByString() {
        check.about("1 for each STRING that is PRESSED in the second one, but not at the same FRET in the first one");
        move(0, 1, 1, from(2, 3, 4), 2, 3, 4);
        move(1, 1, 1, from(2, 3, 4), 2, 3, 5);
        move(2, 1, 1, from(2, 3, 4), 2, 4, 3);
        move(3, 1, 1, from(2, 3, 4), 4, 2, 3);
        move(0, 1, 1, from(2, 3, 4), 2);
        move(0, 1, 1, from(2, 3, 4), 2, 0, 0);
        move(1, 1, 1, from(2), 2, 3);
        move(1, 1, 1, from(2, 0), 2, 3);
        move(4, 1, 1, from(NONE, 2), 2, NONE, 3, 4, 5);
        move(1, 1, 1, from(8, 11), 8, 12);
        move(1, 1, 1, from(2, 7), 2, 8);
        move(1, 1, 1, from(4, 8), 4, 9);
        move(1, 1, 1, from(1, 5), 1, 3);
        move(1, 1, 1, from(2, NONE, NONE, NONE, 3), 2, NONE, NONE, NONE, 4);
    }

    private static void section4FixedWheneverItIs() {
        check.about("it is so whenever the GRIP with these FRETS is one of its GRIPS (again, after it was none)");
        Tablature x = strung(10, 15);
        chord(x, 1, 12, 20);
        check.same("what is fixed", allFrets(x, 0), "2 5");
        x.fix(0, 0);
        check.due("fixed", 0, () -> x.ofChord(0, 5));
        x.reach(2);
        check.due("out of reach", NONE, () -> x.ofChord(0, 5));
        x.reach(3);
        check.due("in reach again", 0, () -> x.ofChord(0, 5));
        x.slacken(1, true);
        check.due("slack", NONE, () -> x.ofChord(0, 5));
        x.slacken(1, false);
        check.due("not slack again", 0, () -> x.ofChord(0, 5));
        x.tune(0, 11);
        check.due("tuned", NONE, () -> x.ofChord(0, 5));
        x.tune(0, 10);
        check.due("tuned back", 0, () -> x.ofChord(0, 5));
        x.capo(1);
        check.due("with a capo", NONE, () -> x.ofChord(0, 5));
        check.due("then none counts", 0, () -> x.many(6));
        x.capo(0);
        check.due("without again", 0, () -> x.ofChord(0, 5));
        check.due("then it counts", 1, () -> x.many(6));

        Tablature y = strung(10, 10, 10, 10, 10);
        chord(y, 1, 11, 12, 13);
        // on five strings 18 have no gap (0 to 17), then come 12 that begin with the string 1; on six strings 24
        // have none, then come 12 that begin with the string 2
        check.same("the last of the 30", frets(y, 0, 29), "- 3 2 - 1");
        y.fix(0, 29);
        check.due("one of the 30", 29, () -> y.ofChord(0, 5));
        y.string(10);
        check.due("behind the 30, when there are more strings", NONE, () -> y.ofChord(0, 5));
        y.slacken(5, true);
        check.due("again one of the 30", 29, () -> y.ofChord(0, 5));
    }

    private static void section4FixedByItsFrets() {
        check.about("A GRIP of a CHORD can be FIXED, by its FRETS");
        Tablature x = strung(5, 10);
        chord(x, 1, 12);
        check.same("the grips", allFrets(x, 0), "- 2, 7 -");
        x.fix(0, 1);
        x.slacken(1, true);
        check.due("the same frets, another number", 0, () -> x.ofChord(0, 5));
        x.slacken(1, false);
        x.tune(0, 10);
        check.due("the same string with another fret", NONE, () -> x.ofChord(0, 5));
        x.tune(0, 4);
        x.capo(1);
        check.same("the same frets under a capo, on strings tuned down", allFrets(x, 0), "- 1, 7 -");
        check.due("are fixed", 1, () -> x.ofChord(0, 5));
        x.fix(0, 0);
        x.capo(0);
        x.tune(0, 5);
        check.due("what was in its place is fixed no more", NONE, () -> x.ofChord(0, 5));
        x.tune(1, 11);
        check.due("but what is: the fret 1", 0, () -> x.ofChord(0, 5));
        x.slacken(1, true);
        check.due("none is so while it is none", 0, () -> x.fix(0, NONE));
        x.slacken(1, false);
        check.due("nor again then", NONE, () -> x.ofChord(0, 5));
    }

    private static void section4NoPlan() {
        check.about("There is none without CHORDS");
        Tablature x = strung(10, 15);
        check.same("many", many(x), "2 0 0 3 0 0 0 -1");
        check.same("total, hardest, mean", x.total() + " " + x.hardest() + " " + x.meanEffort(), "-1 -1 0.0");
        check.same("what would be", x.totalWith(0, 3) + " " + x.bestCapo() + " " + x.totalWithout(0), "-1 -1 -1");
        for (int where = 0; where < 3; where++) {
            check.about("or if one has no GRIP");
            Tablature y = strung(10, 15);
            for (int c = 0; c < 3; c++) {
                chord(y, 1, c == where ? 9 : 12);
            }
            int playable = where == 0 ? 1 : 0;
            check.same("plan, the chord " + where + " without one", plan(y), "-1 -1 -1");
            check.same("many", many(y), "2 0 0 3 3 1 0 -1");
            check.same("total, hardest, mean", y.total() + " " + y.hardest() + " " + y.meanEffort(), "-1 -1 0.0");
            check.same("what would be", y.totalWith(0, 6) + " " + y.bestCapo() + " " + y.totalWithout(0) + " "
                    + y.totalFixed(playable, 0), "-1 -1 -1 -1");
            y.strike(where);
            check.same("plan without that one", plan(y), "0 0");
            check.due("total without that one", 2, () -> y.total());
        }
        Tablature z = new Tablature();
        chord(z, 1, 12);
        check.same("without strings", z.total() + " " + z.plan(0) + " " + z.many(5), "-1 -1 1");
    }

    private static void section4PlanOfFixed() {
        check.about("A PLAN has one of its GRIPS for each CHORD, the FIXED one where one is FIXED");
        Tablature x = strung(5, 10);
        chord(x, 1, 12);
        check.same("- 2 and 7 -", plan(x) + ", " + x.total(), "0, 1");
        x.fix(0, 1);
        check.same("one chord, fixed", plan(x) + ", " + x.total(), "1, 1");
        chord(x, 1, 10);
        check.same("0 and 5", allFrets(x, 1), "- 0, 5 -");
        check.same("7 -, - 0", plan(x) + ", " + x.total(), "1 0, 1");
        x.fix(1, 1);
        check.same("7 -, 5 -: 1 + 6 * 2 + 1 + 1", plan(x) + ", " + x.total(), "1 1, 15");
        x.fix(0, NONE);
        check.same("7 - is still cheaper than - 2: 6 * 3", plan(x) + ", " + x.total(), "1 1, 15");
        x.slacken(0, true);
        check.same("where none of them is a grip", plan(x) + ", " + x.total(), "0 0, 1");

        check.about("the smallest TOTAL, of the EFFORTS of all its GRIPS, and of what all MOVES take");
        Tablature y = strung(0, 5);
        chord(y, 2, 6);
        chord(y, 2, 5);
        chord(y, 2, 6);
        check.same("- 1, - 0, - 1: no move", plan(y) + ", " + y.total() + ", " + y.many(7), "0 0 0, 2, 0");
        y.tune(1, 4);
        check.same("- 2, - 1, - 2: 3 + 3 * 2 + 2", plan(y) + ", " + y.total() + ", " + y.many(7), "0 0 0, 11, 8");
    }

    private static void section4PlanOfSeveral() {
        check.about("of several that with the smaller number of a GRIP at the first CHORD for which they differ");
        Tablature x = strung(10, 10, 10);
        for (int c = 0; c < 3; c++) {
            chord(x, 1, 12);
        }
        check.same("0 0 0, 1 1 1 and 2 2 2 are the same", plan(x) + ", " + x.total(), "0 0 0, 3");
        x.fix(2, 2);
        check.same("0 0 2, 0 2 2 and 2 2 2 are not", plan(x) + ", " + x.total(), "2 2 2, 3");
        x.fix(0, 1);
        check.same("1 0 2 takes more, 1 1 2 and 1 2 2 the same", plan(x) + ", " + x.total(), "1 1 2, 4");
        x.fix(0, 0);
        x.fix(2, 0);
        x.fix(1, 1);
        check.same("all are fixed", plan(x) + ", " + x.total(), "0 1 0, 5");
        Tablature y = strung(10, 10);
        chord(y, 1, 12);
        chord(y, 1, 12, 13);
        check.same("the grips", allFrets(y, 0) + "; " + allFrets(y, 1), "- 2, 2 -; 2 3, 3 2");
        check.same("0 1 and 1 0 are the same, 0 0 takes one more", plan(y) + ", " + y.total(), "0 1, 6");
        Tablature z = strung(10, 10);
        chord(z, 1, 11, 10);
        chord(z, 1, 11, 10);
        chord(z, 1, 10);
        check.same("0 0 0, 0 0 1, 1 1 0, 1 1 1 are the same", plan(z), "0 0 0");
    }

    private static void section5Voicing() {
        check.about("A VOICING is a set of 1 to 4 of the CLASSES 0 to 11 (the sum of 2^c)");
        // from 4 on no string has a class that another one has as an open one
        Tablature x = strung(0, 1, 2, 3);
        check.due("one: 0", 1, () -> x.shapes(1, 0, 4));
        check.due("four: 0 1 2 3", 1, () -> x.shapes(15, 0, 4));
        for (int wrong : new int[] {LEAST, -4095, -1, 0, 31, 4095, 4096, 4097, 8192, MOST}) {
            check.refused("the set " + wrong, x, ARGUMENT, () -> x.shapes(wrong, 0, 1));
        }
        Tablature y = strung(8, 9, 10, 11);
        check.due("one: 11", 1, () -> y.shapes(2048, 11, 4));
        check.due("four: 8 9 10 11", 1, () -> y.shapes(3840, 8, 4));
        check.refused("five: 7 8 9 10 11", y, ARGUMENT, () -> y.shapes(3968, 8, 4));
        check.about("with one of them as the BASS");
        for (int bass = 0; bass <= 11; bass++) {
            int asked = bass;
            if (bass < 8) {
                check.refused("the bass " + bass, y, ARGUMENT, () -> y.shapes(3840, asked, 4));
            } else {
                check.due("the bass " + bass, bass == 8 ? 1 : 0, () -> y.shapes(3840, asked, 4));
            }
        }
        // a shift by 32 and more begins anew
        for (int wrong : new int[] {LEAST, -24, -21, -1, 12, 32, 40, 43, MOST}) {
            check.refused("the bass " + wrong, y, ARGUMENT, () -> y.shapes(3840, wrong, 4));
        }
        check.about("(the CLASS of a pitch is what is left of it by 12)");
        Tablature z = strung(60, 59);
        check.due("60 has the class 0", 1, () -> z.shapes(set(0), 0, 2));
        check.due("59 has the class 11", 1, () -> z.shapes(set(11), 11, 1));
        check.due("60 and 72, but not 60 on the string of 59", 2, () -> z.shapes(set(0), 0, 9));
    }

    private static void section5Frets() {
        check.about("SHAPES from a FRET f, 1 to 9: all that is PRESSED lies at the FRETS f to f + 3");
        Tablature x = strung(0);
        for (int f = 1; f <= 9; f++) {
            int from = f;
            for (int k = 0; k <= 11; k++) {
                int fret = k;
                boolean isIn = k == 0 || k >= f && k <= f + 3;
                int due = k == 0 && f == 9 ? 2 : isIn ? 1 : 0;
                check.due("the fret " + k + " from " + f, due, () -> x.shapes(1 << fret, fret, from));
            }
        }
        for (int wrong : new int[] {LEAST, -1, 0, 10, 12, MOST}) {
            check.refused("from " + wrong, x, ARGUMENT, () -> x.shapes(1, 0, wrong));
        }
    }

    private static void section5Playable() {
        check.about("SHAPES: that are PLAYABLE");
        Tablature x = strung(0, 0);
        check.due("1 4 and 4 1 under a reach of 3", 2, () -> x.shapes(set(1, 4), 1, 1));
        check.due("1 4 and 4 1 not from 2 on", 0, () -> x.shapes(set(1, 4), 1, 2));
        x.reach(2);
        check.due("not under 2", 0, () -> x.shapes(set(1, 4), 1, 1));
        check.due("1 3 and 3 1", 2, () -> x.shapes(set(1, 3), 1, 1));
        x.reach(6);
        check.due("under 6 again", 2, () -> x.shapes(set(1, 4), 1, 1));
        check.due("not 1 5 under 6: that is no fret of them", 0, () -> x.shapes(set(1, 5), 1, 1));
        check.due("an open one does not count", 2, () -> x.shapes(set(0, 11), 0, 8));
    }

    private static void section5Classes() {
        check.about("that sound pitches of just these CLASSES, each at least once");
        Tablature x = strung(0, 1, 2);
        check.due("0 1 2", 1, () -> x.shapes(set(0, 1, 2), 0, 4));
        check.due("0 1, no 2", 1, () -> x.shapes(set(0, 1), 0, 4));
        check.due("0 alone", 1, () -> x.shapes(set(0), 0, 4));
        check.due("four of three strings", 0, () -> x.shapes(set(0, 1, 2, 3), 0, 1));
        Tablature y = strung(0, 12, 0);
        check.due("the same class on more strings, also the same pitch", 7, () -> y.shapes(set(0), 0, 1));
        check.due("without strings", 0, () -> new Tablature().shapes(1, 0, 1));
    }

    private static void section5Bass() {
        check.about("of which the lowest pitch has the CLASS BASS");
        Tablature x = strung(7, 0);
        check.due("the lowest one is on the second string", 1, () -> x.shapes(set(0, 7), 0, 8));
        check.due("not the first string's", 0, () -> x.shapes(set(0, 7), 7, 8));
        // of the pitches 12 and 7 the lowest has the class 7, of 0 and 7 and of 0, 7 and 12 the class 0
        Tablature y = strung(12, 7, 0);
        check.due("12 7 -", 1, () -> y.shapes(set(0, 7), 7, 8));
        check.due("- 7 0 and 12 7 0", 2, () -> y.shapes(set(0, 7), 0, 8));
        Tablature z = strung(0, 0, 60);
        check.due("the pitch 0 is one", 7, () -> z.shapes(set(0), 0, 1));
    }

    private static void section5TheBestOne() {
        check.about("The best one is that with the smallest EFFORT");
        Tablature x = strung(1, 1, 3);
        check.same("one open string, not two with a finger", shape(x, set(3), 3, 2), "- - 0");
        check.due("its effort", 0, () -> x.shapeEffort(set(3), 3, 2));
        check.about("of several that in which more STRINGS sound");
        Tablature y = strung(36, 40, 43, 48);
        check.same("four open strings, not three", shape(y, 145, 0, 1), "0 0 0 0");
        Tablature v = strung(24, 12, 0, 2);
        check.same("three open ones, though the last is none", shape(v, set(0), 0, 1), "0 0 0 -");
        check.about("then that with the smaller FRET of the first STRING for which they are not the same");
        x.slacken(2, true);
        check.same("NONE ahead of 2", shape(x, set(3), 3, 2), "- 2 -");
        check.same("0 2 ahead of 2 0", shape(x, set(1, 3), 1, 2), "0 2 -");
        Tablature z = strung(1, 1);
        check.same("1 2 ahead of 2 1", shape(z, set(2, 3), 2, 1), "1 2");
        check.same("9 10 ahead of 10 9", shape(z, set(10, 11), 10, 9), "9 10");
        check.about("the best one, where there is none");
        check.due("no effort", NONE, () -> z.shapeEffort(set(0), 0, 1));
        check.same("no fret", shape(z, set(0), 0, 1), "- -");
    }

    private static void section5More30() {
        check.about("(the 30 of section 3 are not thought of here)");
        Tablature x = strung(0, 0, 0, 0, 0);
        check.due("2^5 - 1", 31, () -> x.shapes(set(0), 0, 1));
        x.string(0);
        check.due("2^6 - 1", 63, () -> x.shapes(set(0), 0, 1));
        check.same("the last one of them", shape(x, set(0), 0, 1), "0 0 0 0 0 0");
    }
}
