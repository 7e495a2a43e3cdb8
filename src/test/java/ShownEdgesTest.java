/** The edges of promises 23 to 28: show, forged, weighFirst, write, tear, judge. */
public final class ShownEdgesTest {
    private static final Check CHECK = new Check();
    private static final String TOWN = "t9 5;c10 2 9;c20 1 9;c0 1 9;m60 10 8;m50 5 1;m50 5 0;m1 1 99;";

    public static void main(String[] args) {
        eightAreShown();
        numbersOfASquare();
        stampedBehindHisDeath();
        lighterThanItsKind();
        aSetOfThoseShown();
        weighNone();
        weighThoseOnlyWeightCanTell();
        ofLikeKindsTheLeast();
        fifteenEntries();
        numbersOfAnEntry();
        theFirstThatIsOtherwise();
        otherwiseNow();
        tearBoth();
        alsoWhenItIsOver();
        CHECK.end();
    }

    /** "SQUARES are shown (8 at most)"; "how many"; "FULL (8)" */
    private static void eightAreShown() {
        SiegePlate x = Check.townOf(TOWN);
        for (int i = 1; i <= 8; i++) {
            CHECK.due("show " + i, x.show(i % 4, 50, 50, 99), i);
            CHECK.due("shown", x.told(11), i);
        }
        CHECK.due("a ninth", x.show(0, 0, 1, 0), Check.FULL);
        CHECK.due("eight still", x.told(11), 8);
        CHECK.due("the ninth is not forged", x.forged(), 0);
        CHECK.due("tear", x.tear(), 8);
        CHECK.due("one again", x.show(0, 0, 1, 0), 1);
    }

    /** "stamped on day T (0 .. 99) by a man who died on day D (0 .. 99), weighs w (0 .. 99)" */
    private static void numbersOfASquare() {
        SiegePlate x = Check.townOf(TOWN);
        int[][] outside = {{-1, 0, 0}, {100, 0, 0}, {0, -1, 0}, {0, 100, 0}, {0, 0, -1}, {0, 0, 100}};
        for (int[] o : outside) {
            CHECK.due("outside", x.show(0, o[0], o[1], o[2]), Check.OUTSIDE);
            CHECK.due("unknown first", x.show(4, o[0], o[1], o[2]), Check.UNKNOWN);
        }
        CHECK.due("none shown", x.told(11), 0);
        CHECK.due("the least", x.show(0, 0, 0, 0), 1);
        CHECK.due("the most", x.show(3, 99, 99, 99), 2);
        CHECK.due("money -1", x.show(-1, 0, 0, 0), Check.UNKNOWN);
        CHECK.due("money 4", x.show(4, 0, 0, 0), Check.UNKNOWN);
    }

    /** "FORGED: those stamped behind day D"; "99: he lives" */
    private static void stampedBehindHisDeath() {
        int[][] rows = {{0, 0, 0}, {0, 1, 1}, {5, 4, 0}, {5, 5, 0}, {5, 6, 1}, {98, 98, 0}, {98, 99, 1}, {99, 99, 0}};
        for (int[] row : rows) {
            SiegePlate x = Check.townOf(TOWN);
            x.show(2, row[0], row[1], 0);
            CHECK.due("died " + row[0] + ", stamped " + row[1], x.forged(), row[2]);
        }
        // the day of now is of no matter
        SiegePlate x = Check.townOf(TOWN);
        x.show(2, 0, 1, 0);
        x.day(0, 3);
        CHECK.due("on day 3", x.forged(), 1);
    }

    /** "or lighter than W" */
    private static void lighterThanItsKind() {
        int[][] rows = {{0, 7, 1}, {0, 8, 0}, {0, 9, 0}, {0, 0, 1}, {1, 0, 1}, {1, 1, 0}, {2, 0, 0}, {3, 98, 1}, {3, 99, 0}};
        for (int[] row : rows) {
            SiegePlate x = Check.townOf(TOWN);
            x.show(row[0], 99, 0, row[1]);
            CHECK.due("money " + row[0] + " weighs " + row[1], x.forged(), row[2]);
        }
        SiegePlate both = Check.townOf(TOWN);
        both.show(0, 1, 2, 0);
        CHECK.due("by both", both.forged(), 1);
    }

    /** "(a SET of those shown)": bit k for k. */
    private static void aSetOfThoseShown() {
        SiegePlate none = Check.townOf(TOWN);
        CHECK.due("none shown", none.forged(), 0);
        for (int k = 0; k < 8; k++) {
            SiegePlate x = Check.townOf(TOWN);
            for (int i = 0; i < 8; i++) {
                x.show(0, 9, i == k ? 10 : 9, 8);
            }
            CHECK.due("only " + k, x.forged(), 1 << k);
        }
        SiegePlate all = Check.townOf(TOWN);
        for (int i = 0; i < 8; i++) {
            all.show(0, 9, 10, 8);
        }
        CHECK.due("all", all.forged(), 255);
    }

    /** "NONE: there are none" */
    private static void weighNone() {
        SiegePlate x = Check.townOf(TOWN);
        CHECK.due("none shown", x.weighFirst(), Check.NONE);
        for (int i = 0; i < 8; i++) {
            x.show(i % 4, i, i + 1, 0);
            CHECK.due("told by their stamps", x.weighFirst(), Check.NONE);
        }
        x.tear();
        CHECK.due("torn", x.weighFirst(), Check.NONE);
    }

    /** "the kind of MONEY of which most are shown that only weight can tell (not stamped behind D)" */
    private static void weighThoseOnlyWeightCanTell() {
        SiegePlate x = Check.townOf(TOWN);
        x.show(3, 5, 5, 0);
        CHECK.due("the fourth kind, light", x.weighFirst(), 3);
        x.show(0, 5, 6, 0);
        x.show(0, 5, 6, 0);
        CHECK.due("those stamped behind D don't count", x.weighFirst(), 3);
        x.show(3, 99, 99, 99);
        x.show(0, 99, 99, 99);
        CHECK.due("heavy ones count, too", x.weighFirst(), 3);
        x.show(0, 5, 5, 99);
        x.show(0, 5, 4, 0);
        CHECK.due("three of the first", x.weighFirst(), 0);
    }

    /** "of like ones the least" */
    private static void ofLikeKindsTheLeast() {
        SiegePlate x = Check.townOf(TOWN);
        int[] due = {3, 2, 1, 0};
        for (int i = 0; i < 4; i++) {
            x.show(3 - i, 9, 9, 9);
            CHECK.due("one of each down to " + (3 - i), x.weighFirst(), due[i]);
        }
        x.show(2, 9, 9, 9);
        CHECK.due("two of one", x.weighFirst(), 2);
        x.show(1, 9, 9, 9);
        CHECK.due("two of two", x.weighFirst(), 1);
    }

    /** "THE BOOK (15 at most)"; "how many"; "FULL (15)" */
    private static void fifteenEntries() {
        SiegePlate x = Check.townOf(TOWN);
        for (int i = 1; i <= 15; i++) {
            CHECK.due("write " + i, x.write(0, 10), i);
            CHECK.due("entries", x.told(12), i);
        }
        CHECK.due("a sixteenth", x.write(0, 11), Check.FULL);
        CHECK.due("fifteen still", x.told(12), 15);
        CHECK.due("the sixteenth is not wrong", x.judge(), Check.NONE);
        CHECK.due("tear", x.tear(), 15);
        CHECK.due("one again", x.write(0, 11), 1);
    }

    /** "An entry behind THE BOOK (0 .. 99)"; "UNKNOWN, OUTSIDE" */
    private static void numbersOfAnEntry() {
        SiegePlate x = Check.townOf(TOWN);
        CHECK.due("-1 men", x.write(0, -1), Check.OUTSIDE);
        CHECK.due("100 men", x.write(0, 100), Check.OUTSIDE);
        CHECK.due("company 3", x.write(3, 0), Check.UNKNOWN);
        CHECK.due("company -1", x.write(-1, 0), Check.UNKNOWN);
        CHECK.due("company 3, 100 men", x.write(3, 100), Check.UNKNOWN);
        CHECK.due("no entry", x.told(12), 0);
        CHECK.due("0 men", x.write(2, 0), 1);
        CHECK.due("that is right", x.judge(), Check.NONE);
        CHECK.due("99 men", x.write(0, 99), 2);
        CHECK.due("that is wrong", x.judge(), 1);
        SiegePlate most = Check.townOf("t0 0;c99 0 0;");
        most.write(0, 99);
        CHECK.due("99 are right", most.judge(), Check.NONE);
    }

    /** "WRONG: the first that is otherwise now; NONE" */
    private static void theFirstThatIsOtherwise() {
        SiegePlate none = Check.townOf(TOWN);
        CHECK.due("no entry", none.judge(), Check.NONE);
        for (int wrong = 0; wrong < 15; wrong++) {
            SiegePlate x = Check.townOf(TOWN);
            for (int i = 0; i < 15; i++) {
                x.write(i % 2, (i % 2 == 0 ? 10 : 20) + (i == wrong ? 1 : 0) - (i == wrong + 2 ? 1 : 0));
            }
            CHECK.due("the first is " + wrong, x.judge(), wrong);
        }
    }

    /** "otherwise now": as men come and go. */
    private static void otherwiseNow() {
        SiegePlate x = Check.townOf(TOWN);
        x.write(1, 20);
        x.write(0, 9);
        x.write(0, 10);
        CHECK.due("the second", x.judge(), 1);
        x.keep(0);
        x.sally(0, 1);
        CHECK.due("the third", x.judge(), 2);
        x.sally(1, 1);
        CHECK.due("the first", x.judge(), 0);
        x.undo();
        CHECK.due("the third again", x.judge(), 2);
        x.goBack(0);
        CHECK.due("the second again", x.judge(), 1);
    }

    /** "No SQUARES shown, THE BOOK is empty: how much both had." */
    private static void tearBoth() {
        SiegePlate x = Check.townOf(TOWN);
        CHECK.due("nothing", x.tear(), 0);
        for (int i = 0; i < 8; i++) {
            x.show(0, 1, 2, 0);
        }
        for (int i = 0; i < 15; i++) {
            x.write(0, 1);
        }
        CHECK.due("all", x.tear(), 23);
        CHECK.due("none shown", x.told(11), 0);
        CHECK.due("no entries", x.told(12), 0);
        CHECK.due("none forged", x.forged(), 0);
        CHECK.due("none to weigh", x.weighFirst(), Check.NONE);
        CHECK.due("none wrong", x.judge(), Check.NONE);
        CHECK.due("nothing again", x.tear(), 0);
        x.show(0, 1, 1, 8);
        CHECK.due("what was there is gone", x.forged(), 0);
        CHECK.due("a square alone", x.tear(), 1);
        x.write(0, 10);
        CHECK.due("what was there is gone", x.judge(), Check.NONE);
        CHECK.due("an entry alone", x.tear(), 1);
        x.gun();
        x.tear();
        CHECK.due("it is not undone, nor can it be", x.told(13), 1);
    }

    /** Nothing refuses these when it is RELIEVED or FALLEN. */
    private static void alsoWhenItIsOver() {
        for (boolean is : new boolean[] {true, false}) {
            SiegePlate x = Check.townOf(TOWN);
            x.relief(is);
            CHECK.due("show", x.show(0, 1, 2, 8), 1);
            CHECK.due("write", x.write(0, 9), 1);
            CHECK.due("forged", x.forged(), 1);
            CHECK.due("weighFirst", x.weighFirst(), Check.NONE);
            CHECK.due("judge", x.judge(), 0);
            CHECK.due("tear", x.tear(), 2);
        }
    }
}
