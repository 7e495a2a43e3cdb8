/** Promises 8 to 13: day, gun, sally, relief, drift, undo. */
public final class DoneTest {
    private static final Check CHECK = new Check();
    private static final String TOWN =
        "t90 5;c10 2 1;c20 1 0;c5 3 4;m60 10 8;m50 5 1;g10;g4;g7;h2 30;";

    public static void main(String[] args) {
        eating();
        deserting();
        aCompanyOfNobody();
        horses();
        paying();
        payByNoMoney();
        hunger();
        dayTillNobodyIsLeft();
        daysRefused("day", false);
        daysRefused("drift", true);
        guns();
        sallies();
        reliefs();
        drifts();
        driftFalls();
        undone();
        theOldestAreLost();
        CHECK.end();
    }

    private static void eating() {
        SiegePlate x = Check.townOf("t25 0;c10 0 9;c4 0 9;c2 0 9;");
        CHECK.due("day(2, 1)", x.day(2, 1), 16);
        // 20 of 25, then 8 of 5 are not there, then 4 of 5
        CHECK.due("food", x.told(0), 1);
        CHECK.due("fed", x.company(0, 3), 0);
        CHECK.due("not fed", x.company(1, 3), 1);
        CHECK.due("fed behind it", x.company(2, 3), 0);
        CHECK.due("days", x.told(7), 1);
        SiegePlate y = Check.townOf("t20 0;c10 0 9;");
        y.day(1, 1);
        CHECK.due("a ration of 1 is eaten", y.told(0), 10);
        CHECK.due("and leaves hungry", y.company(0, 3), 1);
        y.day(0, 1);
        CHECK.due("hungry again", y.company(0, 3), 2);
        y.day(1, 1);
        CHECK.due("just enough", y.told(0), 0);
        SiegePlate z = Check.townOf("t50 0;c10 0 9;");
        z.day(0, 3);
        CHECK.due("three hungry days", z.company(0, 3), 3);
        z.day(3, 1);
        CHECK.due("by a ration of 3 none", z.company(0, 3), 0);
        CHECK.due("30 eaten", z.told(0), 20);
    }

    private static void deserting() {
        SiegePlate x = Check.townOf("t0 0;c10 0 1;c4 0 0;");
        CHECK.due("first day", x.day(0, 1), 13);
        CHECK.due("it bears one day", x.company(0, 0), 10);
        CHECK.due("one of four", x.company(1, 0), 3);
        CHECK.due("second day", x.day(0, 1), 9);
        CHECK.due("10 / 5 + 1 desert", x.company(0, 0), 7);
        CHECK.due("then 7 / 5 + 1", x.day(0, 1), 6);
        CHECK.due("then 5 / 5 + 1", x.day(0, 1), 3);
        CHECK.due("and the last man", x.day(0, 1), 2);
        CHECK.due("company 1 has none", x.company(1, 0), 0);
    }

    private static void aCompanyOfNobody() {
        SiegePlate x = Check.townOf("t4 0;c0 9 0;c2 0 9;m9 1 1;");
        x.day(2, 1);
        CHECK.due("nobody is fed by 2", x.company(0, 3), 0);
        x.day(2, 1);
        CHECK.due("nobody is fed with no food", x.company(0, 3), 0);
        CHECK.due("the others are not", x.company(1, 3), 1);
        x.day(1, 1);
        CHECK.due("nobody is hungry by 1", x.company(0, 3), 1);
        CHECK.due("nobody deserts", x.company(0, 0), 0);
        CHECK.due("nobody is paid", x.owed(0, 2), 0);
        SiegePlate y = Check.townOf("t4 0;c0 9 0;c2 0 9;");
        y.day(2, 1);
        y.sally(1, 2);
        y.drift(0, 1);
        CHECK.due("no hunger by companies without men", y.told(8), 0);
    }

    private static void horses() {
        SiegePlate x = Check.townOf("t0 0;c1 0 9;h0 3;h2 9;h0 4;h99 99;");
        x.day(2, 1);
        CHECK.due("both horses of day 0, less 2", x.told(0), 5);
        CHECK.due("fed by them", x.company(0, 3), 0);
        x.day(2, 1);
        CHECK.due("none on day 1", x.told(0), 3);
        x.day(0, 1);
        CHECK.due("one on day 2", x.told(0), 12);
    }

    private static void paying() {
        SiegePlate x = Check.townOf("t999 0;c10 2 9;c3 5 9;c4 1 9;m22 7 3;m15 4 2;");
        x.day(2, 1);
        // 20 of the first; 15 of the second, all it has; 4 of none: in words
        CHECK.due("first kind", x.money(0, 0), 2);
        CHECK.due("second kind", x.money(1, 0), 0);
        CHECK.due("company 0 in words", x.company(0, 4), 0);
        CHECK.due("company 2 in words", x.company(2, 4), 4);
        CHECK.due("owed 0 by stamp", x.owed(0, 0), 140);
        CHECK.due("owed 0 by weight", x.owed(0, 1), 60);
        CHECK.due("owed 0 as many", x.owed(0, 2), 20);
        CHECK.due("owed 1 by stamp", x.owed(1, 0), 60);
        CHECK.due("owed 1 by weight", x.owed(1, 1), 30);
        CHECK.due("owed 2 by stamp", x.owed(2, 0), 4);
        x.day(2, 1);
        CHECK.due("all in words", x.company(1, 4), 15);
        CHECK.due("words come to squares", x.owed(1, 0), 75);
        CHECK.due("2 are left", x.money(0, 0), 2);
        // pay is for those who are left
        SiegePlate y = Check.townOf("t0 0;c10 1 0;m9 1 1;");
        y.day(0, 1);
        CHECK.due("7 men are paid", y.money(0, 0), 2);
    }

    private static void payByNoMoney() {
        SiegePlate x = Check.townOf("t9 0;c2 3 9;");
        x.day(2, 1);
        CHECK.due("words alone", x.company(0, 4), 6);
        CHECK.due("by weight too", x.owed(0, 1), 6);
    }

    private static void hunger() {
        SiegePlate x = Check.townOf("t22 0;c1 0 9;c1 0 9;c0 0 0;");
        x.day(2, 1);
        CHECK.due("never below 0", x.told(8), 0);
        x.day(0, 2);
        CHECK.due("two hungry days", x.told(8), 2);
        x.day(2, 1);
        CHECK.due("one less", x.told(8), 1);
        x.day(1, 1);
        CHECK.due("one more by 1", x.told(8), 2);
        SiegePlate y = Check.townOf("t0 0;c1 0 0;");
        y.day(0, 1);
        CHECK.due("he was there as the day began", y.told(8), 1);
    }

    private static void dayTillNobodyIsLeft() {
        SiegePlate x = Check.townOf("t0 0;c5 0 0;c0 0 0;");
        // 5, 3, 2, 1, 0
        CHECK.due("day(0, 30)", x.day(0, 30), 0);
        CHECK.due("days", x.told(7), 4);
        CHECK.due("not fallen", x.told(10), 0);
        CHECK.due("once to undo", x.told(13), 1);
        CHECK.due("no day goes by", x.day(2, 3), 0);
        CHECK.due("days still", x.told(7), 4);
        CHECK.due("twice to undo", x.told(13), 2);
        CHECK.due("not fallen by it", x.told(10), 0);
        CHECK.due("undo nothing", x.undo(), 1);
        CHECK.due("undo all", x.undo(), 0);
        CHECK.due("men", x.told(9), 5);
        SiegePlate y = Check.townOf("t0 0;");
        CHECK.due("a town of nobody", y.day(0, 1), 0);
        CHECK.due("no day of nobody", y.told(7), 0);
    }

    private static int goDays(SiegePlate x, boolean drift, int q, int n) {
        return drift ? x.drift(q, n) : x.day(q, n);
    }

    private static void daysRefused(String name, boolean drift) {
        SiegePlate x = Check.townOf(TOWN);
        CHECK.refused(name + " q -1", x, () -> goDays(x, drift, -1, 1), Check.OUTSIDE);
        CHECK.refused(name + " q 4", x, () -> goDays(x, drift, 4, 1), Check.OUTSIDE);
        CHECK.refused(name + " n 0", x, () -> goDays(x, drift, 0, 0), Check.OUTSIDE);
        CHECK.refused(name + " n 31", x, () -> goDays(x, drift, 0, 31), Check.OUTSIDE);
        x.relief(true);
        CHECK.refused(name + " relieved", x, () -> goDays(x, drift, 0, 1), Check.NOT);
        CHECK.refused(name + " outside first", x, () -> goDays(x, drift, 0, 31), Check.OUTSIDE);
        x.undo();
        x.relief(false);
        CHECK.refused(name + " fallen", x, () -> goDays(x, drift, 0, 1), Check.NOT);
        SiegePlate none = new SiegePlate();
        CHECK.refused(name + " no town", none, () -> goDays(none, drift, 0, 1), Check.NOT);
        CHECK.refused(name + " no town, outside", none, () -> goDays(none, drift, 9, 1), Check.OUTSIDE);
    }

    private static void guns() {
        SiegePlate x = Check.townOf("t0 93;c1 0 0;");
        CHECK.due("gun", x.gun(), 98);
        CHECK.due("99 at most", x.gun(), 99);
        CHECK.due("still", x.gun(), 99);
        CHECK.due("to undo", x.told(13), 3);
        x.relief(true);
        CHECK.refused("gun when relieved", x, x::gun, Check.NOT);
        SiegePlate none = new SiegePlate();
        CHECK.refused("gun without a town", none, none::gun, Check.NOT);
    }

    private static void sallies() {
        SiegePlate x = Check.townOf("t0 10;c9 0 0;c99 0 0;");
        CHECK.due("sally of 5", x.sally(0, 5), 12);
        CHECK.due("4 are left", x.company(0, 0), 4);
        CHECK.due("sally of 1", x.sally(0, 1), 12);
        CHECK.refused("of more than there are", x, () -> x.sally(0, 4), Check.NOT);
        CHECK.due("of all", x.sally(0, 3), 13);
        CHECK.refused("of none", x, () -> x.sally(0, 1), Check.NOT);
        CHECK.refused("k 0", x, () -> x.sally(1, 0), Check.OUTSIDE);
        CHECK.refused("k 100", x, () -> x.sally(1, 100), Check.OUTSIDE);
        CHECK.refused("company 2", x, () -> x.sally(2, 100), Check.UNKNOWN);
        CHECK.refused("company -1", x, () -> x.sally(-1, 1), Check.UNKNOWN);
        CHECK.due("of 99", x.sally(1, 99), 62);
        CHECK.due("nobody is left, not fallen", x.told(10), 0);
        CHECK.due("undo", x.undo(), 3);
        CHECK.due("they are there", x.told(9), 99);
        SiegePlate y = Check.townOf("t0 98;c9 0 0;");
        CHECK.due("99 at most", y.sally(0, 4), 99);
        y.relief(true);
        CHECK.refused("relieved", y, () -> y.sally(0, 1), Check.NOT);
        CHECK.refused("relieved, outside", y, () -> y.sally(0, 0), Check.OUTSIDE);
    }

    private static void reliefs() {
        SiegePlate x = Check.townOf(TOWN);
        x.day(2, 2);
        CHECK.due("relief", x.relief(true), 2);
        CHECK.due("relieved", x.told(10), 1);
        CHECK.refused("relief again", x, () -> x.relief(false), Check.NOT);
        CHECK.due("undo", x.undo(), 1);
        CHECK.due("besieged", x.told(10), 0);
        CHECK.due("fall", x.relief(false), 2);
        CHECK.due("fallen", x.told(10), 2);
        CHECK.refused("fall again", x, () -> x.relief(true), Check.NOT);
        SiegePlate none = new SiegePlate();
        CHECK.refused("without a town", none, () -> none.relief(true), Check.NOT);
    }

    private static void drifts() {
        // THE SEED 0 becomes 12345, then 1406932606, 654583775, 1449466924: DRAWS 0, 21468, 9988, 22117
        SiegePlate x = Check.townOf("t50 0;c5 0 9;");
        CHECK.due("drift", x.drift(2, 2), 0);
        CHECK.due("seed behind four draws", Check.seedOf(x), 1449466924);
        CHECK.due("21468 left over by 6 is 0: a gun; 22117 is not", x.told(1), 5);
        CHECK.due("two days", x.told(7), 2);
        CHECK.due("food", x.told(0), 30);
        CHECK.due("undo", x.undo(), 0);
        CHECK.due("the seed stays", Check.seedOf(x), 1449466924);
        CHECK.due("R", x.told(1), 0);
        CHECK.due("days", x.told(7), 0);
        SiegePlate y = Check.townOf("t50 1;c5 0 9;");
        CHECK.due("0 is below 1", y.drift(2, 5), 1);
        CHECK.due("one draw", Check.seedOf(y), 12345);
        CHECK.due("no day", y.told(7), 0);
        CHECK.due("relieved", y.told(10), 1);
        CHECK.due("undo", y.undo(), 0);
        CHECK.due("besieged", y.told(10), 0);
    }

    private static void driftFalls() {
        SiegePlate x = Check.townOf("t0 0;c2 0 0;");
        x.seed(12345);
        CHECK.due("drift", x.drift(0, 30), 2);
        CHECK.due("days", x.told(7), 2);
        CHECK.due("fallen", x.told(10), 2);
        CHECK.due("undo", x.undo(), 0);
        x.day(0, 30);
        CHECK.due("besieged without men", x.told(10), 0);
        CHECK.due("drift without men", x.drift(0, 30), 2);
        CHECK.due("one day goes by", x.told(7), 3);
    }

    private static void undone() {
        SiegePlate x = Check.townOf(TOWN);
        String start = Check.besieged(x);
        CHECK.refused("undo nothing", x, x::undo, Check.NOT);
        x.day(1, 3);
        String days = Check.besieged(x);
        x.gun();
        String gun = Check.besieged(x);
        x.sally(0, 2);
        String sally = Check.besieged(x);
        x.relief(false);
        x.gun();
        x.day(1, 99);
        x.write(1, 1);
        CHECK.due("the refused are not undone", x.undo(), 3);
        CHECK.same("undo relief", Check.besieged(x), sally);
        CHECK.due("undo sally", x.undo(), 2);
        CHECK.same("undo sally", Check.besieged(x), gun);
        CHECK.due("undo gun", x.undo(), 1);
        CHECK.same("undo gun", Check.besieged(x), days);
        CHECK.due("undo days", x.undo(), 0);
        CHECK.same("undo days", Check.besieged(x), start);
        CHECK.due("the book stays", x.told(12), 1);
        CHECK.refused("nothing more", x, x::undo, Check.NOT);
    }

    private static void theOldestAreLost() {
        SiegePlate x = Check.townOf("t0 0;c99 0 9;");
        for (int i = 0; i < 23; i++) {
            x.sally(0, 1);
        }
        CHECK.due("20 are kept", x.told(13), 20);
        for (int i = 19; i >= 0; i--) {
            CHECK.due("undo", x.undo(), i);
            CHECK.due("men", x.told(9), 96 - i);
        }
        CHECK.due("the oldest 3 are lost", x.undo(), Check.NOT);
        CHECK.due("men", x.told(9), 96);
        x.gun();
        CHECK.due("and on", x.undo(), 0);
    }
}
