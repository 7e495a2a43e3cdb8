/** Promises 1 to 7: a new object, feed, town, fault, told, company, money. */
public final class TownTest {
    private static final Check CHECK = new Check();
    private static final String TOWN =
        "t90 5;c10 2 1;c20 1 0;c5 3 4;m60 10 8;m50 5 1;g10;g4;g7;h2 30;";

    public static void main(String[] args) {
        newObject();
        feed();
        textsWithoutFault();
        misplaced();
        wrongNumbers();
        tooMany();
        faultLeavesAllElse();
        townBeginsAnew();
        noTownByBlanks();
        toldOfATown();
        companies();
        moneys();
        CHECK.end();
    }

    private static void newObject() {
        SiegePlate x = new SiegePlate();
        for (int what = 0; what < 15; what++) {
            CHECK.due("new told(" + what + ")", x.told(what), 0);
        }
        CHECK.due("new fault()", x.fault(), Check.NONE);
        CHECK.due("new company", x.company(0, 0), Check.UNKNOWN);
        CHECK.due("new money", x.money(0, 0), Check.UNKNOWN);
        CHECK.due("new costs", x.costs(0), Check.UNKNOWN);
        CHECK.due("new promise", x.promise(0, 1), Check.UNKNOWN);
        CHECK.due("new sally", x.sally(0, 1), Check.UNKNOWN);
        CHECK.due("new owed", x.owed(0, 0), Check.UNKNOWN);
        CHECK.due("new bought", x.bought(0, -1), Check.UNKNOWN);
        CHECK.due("new show", x.show(0, 0, 0, 0), Check.UNKNOWN);
        CHECK.due("new write", x.write(0, 0), Check.UNKNOWN);
        CHECK.due("new seed", x.seed(7), 0);
        CHECK.due("new goBack", x.goBack(0), Check.NOT);
    }

    private static void feed() {
        SiegePlate x = new SiegePlate();
        CHECK.refused("feed(-1)", x, () -> x.feed(-1), Check.OUTSIDE);
        CHECK.refused("feed(256)", x, () -> x.feed(256), Check.OUTSIDE);
        CHECK.due("feed(0)", x.feed(0), 1);
        CHECK.due("feed(255)", x.feed(255), 2);
        for (int i = 2; i < 240; i++) {
            CHECK.due("feed " + i, x.feed(32), i + 1);
        }
        CHECK.refused("feed beyond 240", x, () -> x.feed(32), Check.FULL);
        CHECK.refused("feed(256) beyond 240", x, () -> x.feed(256), Check.OUTSIDE);
        CHECK.due("town of letter 0", x.town(), -11);
        CHECK.due("its place", x.fault(), 0);
        CHECK.due("feed again", x.feed(32), 1);
    }

    private static void reads(String text, int answer, int place) {
        SiegePlate x = new SiegePlate();
        CHECK.due("town() of '" + text + "'", Check.becomes(x, text), answer);
        CHECK.due("fault() of '" + text + "'", x.fault(), place);
        CHECK.due("letters behind '" + text + "'", x.told(6), 0);
        CHECK.due("stands '" + text + "'", x.told(14), answer >= 0 && !text.isBlank() ? 1 : 0);
    }

    private static void textsWithoutFault() {
        reads("", 0, Check.NONE);
        reads("   ", 0, Check.NONE);
        reads("t0 0;", 0, Check.NONE);
        reads("  t 999  99  ;  ", 0, Check.NONE);
        reads("t000 099;c099 009 009;", 1, Check.NONE);
        reads("t0 0;m999 99 99;g99;h99 99;c0 0 0;m0 1 0;g1;h0 1;c99 9 9;", 2, Check.NONE);
        reads(TOWN, 3, Check.NONE);
        reads("t1 1;" + "c1 1 1;".repeat(5) + "m1 1 1;".repeat(4) + "g1;".repeat(6) + "h1 1;".repeat(4), 5, Check.NONE);
        reads("t0 0;" + " ".repeat(227) + "c1 1 1 ;", 1, Check.NONE);
    }

    private static void misplaced() {
        reads("x", -11, 0);
        reads("  c1 1 1;", -11, 2);
        reads("m", -11, 0);
        reads(";", -11, 0);
        reads("5", -11, 0);
        reads("1000", -11, 0);
        reads("T0 0;", -11, 0);
        reads("t", -11, 1);
        reads("t  ", -11, 3);
        reads("t0", -11, 2);
        reads("t0 0", -11, 4);
        reads("t0 0  ", -11, 6);
        reads("t;", -11, 1);
        reads("t0;", -11, 2);
        reads("t0 0 0;", -11, 5);
        reads("t0 0 1000;", -11, 5);
        reads("t0 t", -11, 3);
        reads("t0 0c", -11, 4);
        reads("t0 -1;", -11, 3);
        reads("t0,0;", -11, 2);
        reads("t0 0;;", -11, 5);
        reads("t0 0;7", -11, 5);
        reads("t0 0;x", -11, 5);
        reads("t0 0;\tc1 1 1;", -11, 5);
        reads("t0 0;c1 1 1;c", -11, 13);
        reads("t0 0;c1 1;", -11, 9);
        reads("t0 0;g1 1;", -11, 8);
        reads("t0 0;h1;", -11, 7);
        reads("t0 0;m1 1;", -11, 9);
        reads("t0 0;" + (char) 255, -11, 5);
        reads("t0 0;" + "c1 1 1;".repeat(4) + "c1 1 c1", -11, 38);
        // a sixth 'c' where no word may stand cannot stand there first of all
        reads("t0 0;" + "c1 1 1;".repeat(5) + "g c", -11, 42);
        reads("t0 0 t", -11, 5);
    }

    private static void wrongNumbers() {
        reads("t1000 0;", -12, 1);
        reads("t 0000 0;", -12, 2);
        reads("t0001", -12, 1);
        reads("t1000000000000000000000 x", -12, 1);
        reads("t0 100;", -12, 3);
        reads("t0 100", -12, 3);
        reads("t0 100x", -12, 3);
        reads("t0 0;c100 0 0;", -12, 6);
        reads("t0 0;c99 10 0;", -12, 9);
        reads("t0 0;c99 9 10;", -12, 11);
        reads("t0 0;m1000 1 0;", -12, 6);
        reads("t0 0;m1 0 0;", -12, 8);
        reads("t0 0;m1 100 0;", -12, 8);
        reads("t0 0;m1 1 100;", -12, 10);
        reads("t0 0;g0;", -12, 6);
        reads("t0 0;g100;", -12, 6);
        reads("t0 0;h100 1;", -12, 6);
        reads("t0 0;h1 0;", -12, 8);
        reads("t0 0;h1 100;", -12, 8);
        // the first number is at fault ahead of the second
        reads("t1000 1000;", -12, 1);
    }

    private static void tooMany() {
        reads("t0 0;t", -13, 5);
        reads("t0 0;t0 0;", -13, 5);
        reads("t0 0;c1 1 1; t", -13, 13);
        reads("t0 0;" + "c1 1 1;".repeat(6), -13, 40);
        reads("t0 0;" + "m1 1 1;".repeat(4) + " m", -13, 34);
        reads("t0 0;" + "h1 1;".repeat(5), -13, 25);
        reads("t0 0;" + "g1;".repeat(7), -13, 23);
        reads("t0 0;" + "g1;".repeat(7) + "x", -13, 23);
    }

    private static void faultLeavesAllElse() {
        SiegePlate x = Check.townOf(TOWN);
        x.day(2, 2);
        x.show(0, 1, 2, 3);
        x.write(1, 15);
        x.seed(9);
        String before = Check.seen(x);
        CHECK.due("town with a fault", Check.becomes(x, "t0 0;c"), -11);
        CHECK.due("its place", x.fault(), 6);
        CHECK.same("town with a fault", Check.seen(x).replace("fault 6", "fault -1"), before);
        CHECK.due("undo behind it", x.undo(), 0);
        x.keep(1);
        CHECK.due("another fault", Check.becomes(x, "q"), -11);
        CHECK.due("images stay", x.goBack(1), 1);
    }

    private static void townBeginsAnew() {
        SiegePlate x = Check.townOf(TOWN);
        x.day(0, 4);
        x.gun();
        x.show(0, 1, 2, 3);
        x.write(1, 15);
        x.seed(9);
        x.keep(0);
        x.relief(false);
        Check.becomes(x, "c");
        CHECK.due("fault", x.fault(), 0);
        CHECK.due("town()", Check.becomes(x, TOWN), 3);
        SiegePlate fresh = Check.townOf(TOWN);
        fresh.seed(9);
        CHECK.same("a town anew", Check.seen(x), Check.seen(fresh));
        CHECK.due("undo", x.undo(), Check.NOT);
        CHECK.due("goBack", x.goBack(0), Check.NOT);
        // fewer companies and kinds than before: nothing of the old ones is left
        CHECK.due("a lesser town", Check.becomes(x, "t1 2;c3 0 0;"), 1);
        CHECK.due("men of all", x.told(9), 3);
        CHECK.due("no company 1", x.company(1, 0), Check.UNKNOWN);
        CHECK.due("no money", x.money(0, 0), Check.UNKNOWN);
        CHECK.due("no good", x.costs(0), Check.UNKNOWN);
        CHECK.due("no horses", x.told(5), 0);
    }

    private static void noTownByBlanks() {
        SiegePlate x = Check.townOf(TOWN);
        x.day(2, 1);
        x.seed(77);
        x.keep(0);
        x.write(0, 3);
        CHECK.due("town() of blanks", Check.becomes(x, "  "), 0);
        SiegePlate fresh = new SiegePlate();
        fresh.seed(77);
        CHECK.same("no town", Check.seen(x), Check.seen(fresh));
        CHECK.due("goBack", x.goBack(0), Check.NOT);
        CHECK.due("day", x.day(0, 1), Check.NOT);
    }

    private static void toldOfATown() {
        SiegePlate x = Check.townOf(TOWN);
        int[] due = {90, 5, 3, 2, 3, 1, 0, 0, 0, 35, 0, 0, 0, 0, 1};
        for (int what = 0; what < due.length; what++) {
            CHECK.due("told(" + what + ")", x.told(what), due[what]);
        }
        x.feed(32);
        x.feed(32);
        x.day(0, 2);
        x.gun();
        x.show(0, 1, 1, 8);
        x.write(0, 10);
        x.write(0, 11);
        // company 0 bears the first day, company 1 neither (20 to 15 to 11), company 2 both
        int[] later = {90, 10, 3, 2, 3, 1, 2, 2, 2, 23, 0, 1, 2, 2, 1};
        for (int what = 0; what < later.length; what++) {
            CHECK.due("later told(" + what + ")", x.told(what), later[what]);
        }
        x.relief(true);
        CHECK.due("relieved", x.told(10), 1);
        x.undo();
        x.relief(false);
        CHECK.due("fallen", x.told(10), 2);
        CHECK.refused("told(-1)", x, () -> x.told(-1), Check.OUTSIDE);
        CHECK.refused("told(15)", x, () -> x.told(15), Check.OUTSIDE);
    }

    private static void companies() {
        SiegePlate x = Check.townOf(TOWN);
        int[][] due = {{10, 2, 1, 0, 0}, {20, 1, 0, 0, 0}, {5, 3, 4, 0, 0}};
        for (int c = 0; c < 3; c++) {
            for (int what = 0; what < 5; what++) {
                CHECK.due("company(" + c + ", " + what + ")", x.company(c, what), due[c][what]);
            }
        }
        CHECK.refused("company(3, 0)", x, () -> x.company(3, 0), Check.UNKNOWN);
        CHECK.refused("company(-1, 0)", x, () -> x.company(-1, 0), Check.UNKNOWN);
        CHECK.refused("company(3, 9)", x, () -> x.company(3, 9), Check.UNKNOWN);
        CHECK.refused("company(2, 5)", x, () -> x.company(2, 5), Check.OUTSIDE);
        CHECK.refused("company(2, -1)", x, () -> x.company(2, -1), Check.OUTSIDE);
    }

    private static void moneys() {
        SiegePlate x = Check.townOf(TOWN);
        int[][] due = {{60, 10, 8}, {50, 5, 1}};
        for (int m = 0; m < 2; m++) {
            for (int what = 0; what < 3; what++) {
                CHECK.due("money(" + m + ", " + what + ")", x.money(m, what), due[m][what]);
            }
        }
        CHECK.refused("money(2, 0)", x, () -> x.money(2, 0), Check.UNKNOWN);
        CHECK.refused("money(-1, 3)", x, () -> x.money(-1, 3), Check.UNKNOWN);
        CHECK.refused("money(1, 3)", x, () -> x.money(1, 3), Check.OUTSIDE);
        CHECK.refused("money(1, -1)", x, () -> x.money(1, -1), Check.OUTSIDE);
    }
}
