/** The edges of promises 5 to 7: told, company, money. */
public final class ToldEdgesTest {
    private static final Check CHECK = new Check();

    public static void main(String[] args) {
        whatIsToldIsBounded();
        foodAndOddsFromLeastToMost();
        menOfAllFromNoneToMost();
        besiegedRelievedFallen();
        lettersShownEntriesUndoable();
        thereIsATownOrNot();
        companiesFromFirstToLast();
        whatOfACompanyIsBounded();
        moneyFromFirstToLast();
        whatOfAMoneyIsBounded();
        CHECK.end();
    }

    /** "what 0 .. 14. OUTSIDE." */
    private static void whatIsToldIsBounded() {
        SiegePlate x = Check.townOf(Twins.TOWN);
        CHECK.due("told(-1)", x.told(-1), Check.OUTSIDE);
        CHECK.due("told(0)", x.told(0), 90);
        CHECK.due("told(14)", x.told(14), 1);
        CHECK.due("told(15)", x.told(15), Check.OUTSIDE);
        CHECK.due("told(16), which is 0 by four bits", x.told(16), Check.OUTSIDE);
        CHECK.due("told of the most", x.told(Integer.MAX_VALUE), Check.OUTSIDE);
        CHECK.due("told of the least", x.told(Integer.MIN_VALUE), Check.OUTSIDE);
    }

    /** "0 FOOD, 1 R": as they are now. */
    private static void foodAndOddsFromLeastToMost() {
        SiegePlate x = Check.townOf("t999 98;c1 0 9;h0 99;h0 99;h0 99;h0 99;");
        x.day(0, 1);
        CHECK.due("the most food there can be", x.told(0), 1395);
        x.gun();
        CHECK.due("the most odds there can be", x.told(1), 99);
        SiegePlate y = Check.townOf("t2 0;c1 0 9;");
        y.day(2, 1);
        CHECK.due("no food", y.told(0), 0);
        CHECK.due("no odds", y.told(1), 0);
    }

    /** "9 men of all" */
    private static void menOfAllFromNoneToMost() {
        CHECK.due("no company", Check.townOf("t0 0;").told(9), 0);
        CHECK.due("companies without men", Check.townOf("t0 0;c0 0 0;c0 0 0;").told(9), 0);
        SiegePlate x = Check.townOf("t0 0;" + "c99 0 0;".repeat(5));
        CHECK.due("all there can be", x.told(9), 495);
        x.sally(4, 99);
        CHECK.due("less a company", x.told(9), 396);
    }

    /** "10 0 besieged (no TOWN, too), 1 RELIEVED, 2 FALLEN" */
    private static void besiegedRelievedFallen() {
        SiegePlate x = new SiegePlate();
        CHECK.due("no town", x.told(10), 0);
        Check.becomes(x, Twins.TOWN);
        CHECK.due("besieged", x.told(10), 0);
        x.relief(true);
        CHECK.due("relieved", x.told(10), 1);
        Check.becomes(x, "");
        CHECK.due("no town behind a relieved one", x.told(10), 0);
        Check.becomes(x, Twins.TOWN);
        x.relief(false);
        CHECK.due("fallen", x.told(10), 2);
        Check.becomes(x, Twins.TOWN);
        CHECK.due("besieged behind a fallen one", x.told(10), 0);
    }

    /** "6 letters of THE TEXT", "11 SQUARES shown, 12 entries of THE BOOK, 13 how many can be undone" */
    private static void lettersShownEntriesUndoable() {
        SiegePlate x = Check.townOf(Twins.TOWN);
        for (int i = 0; i < 241; i++) {
            x.feed(' ');
        }
        CHECK.due("letters", x.told(6), 240);
        for (int i = 0; i < 9; i++) {
            x.show(0, 1, 1, 1);
        }
        CHECK.due("squares", x.told(11), 8);
        for (int i = 0; i < 16; i++) {
            x.write(0, 1);
        }
        CHECK.due("entries", x.told(12), 15);
        for (int i = 0; i < 21; i++) {
            CHECK.due("undoable", x.told(13), Math.min(20, i));
            x.gun();
        }
        CHECK.due("undoable", x.told(13), 20);
    }

    /** "14 1 there is a TOWN, 0 not" */
    private static void thereIsATownOrNot() {
        SiegePlate x = new SiegePlate();
        CHECK.due("not at first", x.told(14), 0);
        Check.becomes(x, "t");
        CHECK.due("not by a fault", x.told(14), 0);
        Check.becomes(x, "t0 0;");
        CHECK.due("the least town", x.told(14), 1);
        Check.becomes(x, "x");
        CHECK.due("a fault leaves it", x.told(14), 1);
        x.relief(false);
        CHECK.due("a fallen one is there", x.told(14), 1);
        Check.becomes(x, " ");
        CHECK.due("blanks are none", x.told(14), 0);
    }

    /** "Of a COMPANY"; "UNKNOWN (a COMPANY that there is not)" */
    private static void companiesFromFirstToLast() {
        SiegePlate none = Check.townOf("t0 0;m1 1 1;");
        CHECK.due("of none", none.company(0, 0), Check.UNKNOWN);
        SiegePlate all = Check.townOf("t0 0;c1 0 0;c2 0 0;c3 0 0;c4 0 0;c5 0 0;");
        CHECK.due("-1", all.company(-1, 0), Check.UNKNOWN);
        for (int c = 0; c < 5; c++) {
            CHECK.due("company " + c, all.company(c, 0), c + 1);
        }
        CHECK.due("5", all.company(5, 0), Check.UNKNOWN);
        SiegePlate two = Check.townOf("t0 0;c1 0 0;c2 0 0;");
        CHECK.due("the last", two.company(1, 0), 2);
        CHECK.due("behind the last", two.company(2, 0), Check.UNKNOWN);
        two.sally(1, 2);
        CHECK.due("one without men is there", two.company(1, 0), 0);
    }

    /** "what = 0 men, 1 P, 2 what it BEARS, 3 hungry days, 4 OWED in words. OUTSIDE." */
    private static void whatOfACompanyIsBounded() {
        SiegePlate x = Check.townOf("t0 0;c9 3 5;");
        x.day(1, 2);
        int[] due = {9, 3, 5, 2, 54};
        CHECK.due("-1", x.company(0, -1), Check.OUTSIDE);
        for (int what = 0; what < 5; what++) {
            CHECK.due("what " + what, x.company(0, what), due[what]);
        }
        CHECK.due("5", x.company(0, 5), Check.OUTSIDE);
        CHECK.due("unknown first", x.company(1, 5), Check.UNKNOWN);
        CHECK.due("unknown first below", x.company(-1, -1), Check.UNKNOWN);
    }

    /** "Of a MONEY"; "UNKNOWN (a MONEY that there is not)" */
    private static void moneyFromFirstToLast() {
        SiegePlate none = Check.townOf("t0 0;c1 1 1;");
        CHECK.due("of none", none.money(0, 0), Check.UNKNOWN);
        SiegePlate all = Check.townOf("t0 0;m1 1 1;m2 1 1;m3 1 1;m4 1 1;");
        CHECK.due("-1", all.money(-1, 0), Check.UNKNOWN);
        for (int m = 0; m < 4; m++) {
            CHECK.due("money " + m, all.money(m, 0), m + 1);
        }
        CHECK.due("4", all.money(4, 0), Check.UNKNOWN);
        SiegePlate two = Check.townOf("t0 0;m1 1 1;m2 1 1;");
        CHECK.due("the last", two.money(1, 0), 2);
        CHECK.due("behind the last", two.money(2, 0), Check.UNKNOWN);
    }

    /** "what = 0 SQUARES left, 1 V, 2 W. OUTSIDE." */
    private static void whatOfAMoneyIsBounded() {
        SiegePlate x = Check.townOf("t0 0;c2 2 9;m9 8 7;");
        x.day(0, 2);
        int[] due = {1, 8, 7};
        CHECK.due("-1", x.money(0, -1), Check.OUTSIDE);
        for (int what = 0; what < 3; what++) {
            CHECK.due("what " + what, x.money(0, what), due[what]);
        }
        CHECK.due("3", x.money(0, 3), Check.OUTSIDE);
        CHECK.due("unknown first", x.money(1, 3), Check.UNKNOWN);
        CHECK.due("unknown first below", x.money(-1, -1), Check.UNKNOWN);
    }
}
