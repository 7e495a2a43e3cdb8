/** The edges of section 2 (DAYS) and of promise 8: day. */
public final class DaysEdgesTest {
    private static final Check CHECK = new Check();

    public static void main(String[] args) {
        daysAreCountedFrom0();
        rationsFrom0To3();
        horsesComeAheadOfTheMeal();
        horsesComeOnTheirDayAlone();
        justEnoughFood();
        notEnoughFoodIsLeftToOthers();
        lessThanTwoIsHungry();
        twoOrThreeAre0DaysAgain();
        asManyHungryDaysAsItBears();
        oneOfFiveAndOne();
        theyDesertOnEachFurtherDay();
        aCompanyOfNobody();
        justEnoughSquares();
        aWholeCompanyByOneKind();
        noKindHasEnough();
        payOfNothing();
        payOfThoseWhoAreLeft();
        hungerByOneADay();
        hungerIs0AtLeast();
        hungerOfThoseWhoBeganTheDay();
        manyHungryDays();
        daysOfACallFrom1To30();
        daysGoTillNoManIsLeft();
        noDayWhereNoManIs();
        daysAbove9000();
        CHECK.end();
    }

    /** "DAYS are counted from 0. HUNGER is 0 at first."; "DAYS are 1 more" */
    private static void daysAreCountedFrom0() {
        SiegePlate x = Check.townOf("t9 0;c1 0 9;");
        CHECK.due("DAYS at first", x.told(7), 0);
        CHECK.due("HUNGER at first", x.told(8), 0);
        CHECK.due("hungry days at first", x.company(0, 3), 0);
        x.day(0, 1);
        CHECK.due("behind one", x.told(7), 1);
        x.day(0, 2);
        CHECK.due("behind three", x.told(7), 3);
    }

    /** "A DAY with a RATION q (0 .. 3 for each man)" */
    private static void rationsFrom0To3() {
        for (int q = 0; q <= 3; q++) {
            SiegePlate x = Check.townOf("t100 0;c7 0 9;c3 0 9;");
            CHECK.due("day(" + q + ", 1)", x.day(q, 1), 10);
            CHECK.due("eaten by " + q, x.told(0), 100 - 10 * q);
        }
        SiegePlate x = Check.townOf("t100 0;c7 0 9;");
        CHECK.due("day(-1, 1)", x.day(-1, 1), Check.OUTSIDE);
        CHECK.due("day(4, 1)", x.day(4, 1), Check.OUTSIDE);
        CHECK.due("no day", x.told(7), 0);
    }

    /** "FOOD is more by HORSES of this day; then COMPANY by COMPANY" */
    private static void horsesComeAheadOfTheMeal() {
        SiegePlate x = Check.townOf("t1 0;c2 0 0;h0 3;");
        CHECK.due("they eat the horse", x.day(2, 1), 2);
        CHECK.due("all of it", x.told(0), 0);
        CHECK.due("nobody is hungry", x.company(0, 3), 0);
    }

    /** "on day A, FOOD becomes B more": neither ahead of it nor behind it, and on each of two ways to it. */
    private static void horsesComeOnTheirDayAlone() {
        SiegePlate x = Check.townOf("t0 0;c1 0 9;h1 5;h3 7;h1 4;h1 2;");
        int[] due = {0, 11, 11, 18, 18};
        for (int day = 0; day < due.length; day++) {
            x.day(0, 1);
            CHECK.due("food behind day " + day, x.told(0), due[day]);
        }
        x.undo();
        x.undo();
        CHECK.due("undone", x.told(0), 11);
        x.day(0, 1);
        CHECK.due("the horse comes again", x.told(0), 18);
        SiegePlate all = Check.townOf("t0 0;c1 0 9;h2 99;h2 99;h2 99;h2 99;");
        all.day(0, 2);
        CHECK.due("none yet", all.told(0), 0);
        all.day(0, 1);
        CHECK.due("four on one day", all.told(0), 396);
    }

    /** "if FOOD is enough for q times its men, it is eaten" */
    private static void justEnoughFood() {
        for (int q = 1; q <= 3; q++) {
            SiegePlate just = Check.townOf("t" + 5 * q + " 0;c5 0 9;");
            just.day(q, 1);
            CHECK.due("just enough by " + q, just.told(0), 0);
            CHECK.due("hungry by " + q, just.company(0, 3), q < 2 ? 1 : 0);
            SiegePlate less = Check.townOf("t" + (5 * q - 1) + " 0;c5 0 9;");
            less.day(q, 1);
            CHECK.due("one less by " + q, less.told(0), 5 * q - 1);
            CHECK.due("hungry by one less", less.company(0, 3), 1);
        }
    }

    /** "else the COMPANY gets nothing (as by q 0) and no FOOD is taken" */
    private static void notEnoughFoodIsLeftToOthers() {
        SiegePlate x = Check.townOf("t19 0;c10 0 9;c9 0 9;c1 0 9;c1 0 9;");
        x.day(2, 1);
        int[] hungry = {1, 0, 1, 1};
        for (int c = 0; c < 4; c++) {
            CHECK.due("company " + c, x.company(c, 3), hungry[c]);
        }
        CHECK.due("18 are eaten by the second", x.told(0), 1);
    }

    /** "a COMPANY that gets less than 2 each is hungry one more day" */
    private static void lessThanTwoIsHungry() {
        SiegePlate x = Check.townOf("t100 0;c5 0 9;");
        x.day(0, 1);
        CHECK.due("by 0", x.company(0, 3), 1);
        x.day(1, 1);
        CHECK.due("by 1", x.company(0, 3), 2);
        CHECK.due("which is eaten", x.told(0), 95);
        x.day(1, 4);
        CHECK.due("by 1 again", x.company(0, 3), 6);
    }

    /** "(one that gets 2 or 3: 0 days again)" */
    private static void twoOrThreeAre0DaysAgain() {
        for (int q = 2; q <= 3; q++) {
            SiegePlate x = Check.townOf("t100 0;c5 0 9;");
            x.day(0, 9);
            CHECK.due("hungry days", x.company(0, 3), 9);
            x.day(q, 1);
            CHECK.due("0 again by " + q, x.company(0, 3), 0);
            CHECK.due("nobody deserts on nine more", x.day(0, 9), 5);
            CHECK.due("two on the tenth", x.day(0, 1), 3);
        }
    }

    /** "if these are above what it BEARS": as many it bears, one more it does not; 0 .. 9. */
    private static void asManyHungryDaysAsItBears() {
        for (int bears = 0; bears <= 9; bears++) {
            SiegePlate x = Check.townOf("t0 0;c9 0 " + bears + ";");
            for (int day = 0; day < bears; day++) {
                CHECK.due("it bears day " + day + " of " + bears, x.day(0, 1), 9);
            }
            CHECK.due("behind " + bears + " days", x.day(0, 1), 7);
        }
    }

    /** "one man of five, and one, deserts (all of them, if there are no more)"; "/ cuts towards 0" */
    private static void oneOfFiveAndOne() {
        int[] men = {0, 1, 2, 4, 5, 6, 9, 10, 14, 15, 94, 95, 98, 99};
        int[] left = {0, 0, 1, 3, 3, 4, 7, 7, 11, 11, 75, 75, 78, 79};
        for (int i = 0; i < men.length; i++) {
            SiegePlate x = Check.townOf("t0 0;c" + men[i] + " 0 0;c1 0 9;");
            x.day(0, 1);
            CHECK.due("left of " + men[i], x.company(0, 0), left[i]);
        }
    }

    /** "hungry one more day; if these are above what it BEARS": on each of them. */
    private static void theyDesertOnEachFurtherDay() {
        SiegePlate x = Check.townOf("t30 0;c20 0 1;");
        int[] left = {20, 15, 11, 8, 6};
        for (int day = 0; day < left.length; day++) {
            CHECK.due("left behind day " + day, x.day(0, 1), left[day]);
        }
        CHECK.due("fed, they stay", x.day(2, 1), 6);
        CHECK.due("they bear one day again", x.day(0, 1), 6);
        CHECK.due("and no second", x.day(0, 1), 4);
    }

    /** A company without men: nothing is needed for it, it counts its hungry days, and nobody deserts. */
    private static void aCompanyOfNobody() {
        SiegePlate x = Check.townOf("t0 0;c0 9 0;c9 0 9;m5 1 1;");
        x.day(1, 1);
        CHECK.due("by 1", x.company(0, 3), 1);
        x.day(0, 1);
        CHECK.due("by 0", x.company(0, 3), 2);
        x.day(2, 1);
        CHECK.due("2 for nobody is there", x.company(0, 3), 0);
        CHECK.due("nobody deserted", x.company(0, 0), 0);
        CHECK.due("nobody was paid", x.money(0, 0), 5);
        CHECK.due("nothing is owed", x.company(0, 4), 0);
    }

    /** "of the first kind of MONEY that has as many left as are needed" */
    private static void justEnoughSquares() {
        SiegePlate just = Check.townOf("t0 0;c3 4 9;m12 1 1;m99 1 1;");
        just.day(0, 1);
        CHECK.due("just as many", just.money(0, 0), 0);
        CHECK.due("none of the second", just.money(1, 0), 99);
        just.day(0, 1);
        CHECK.due("then of the second", just.money(1, 0), 87);
        SiegePlate less = Check.townOf("t0 0;c3 4 9;m11 1 1;m12 99 1;m99 1 1;");
        less.day(0, 1);
        CHECK.due("one too few is left", less.money(0, 0), 11);
        CHECK.due("the second pays, whatever its stamp", less.money(1, 0), 0);
        CHECK.due("the third does not", less.money(2, 0), 99);
        less.day(0, 1);
        CHECK.due("then the third", less.money(2, 0), 87);
        SiegePlate last = Check.townOf("t0 0;c9 9 9;m80 1 1;m80 1 1;m80 1 1;m81 7 1;");
        last.day(0, 1);
        CHECK.due("the fourth kind", last.money(3, 0), 0);
        CHECK.due("by its stamp", last.owed(0, 0), 567);
        CHECK.due("no words", last.company(0, 4), 0);
    }

    /** "a whole COMPANY by one kind (V of no matter)" */
    private static void aWholeCompanyByOneKind() {
        SiegePlate x = Check.townOf("t0 0;c5 2 9;c3 2 9;m9 1 1;m9 2 1;");
        x.day(0, 1);
        CHECK.due("ten are owed in words, though there are 18", x.company(0, 4), 10);
        CHECK.due("six of the first", x.money(0, 0), 3);
        CHECK.due("none of the second", x.money(1, 0), 9);
        x.day(0, 1);
        CHECK.due("six of the second", x.money(1, 0), 3);
        CHECK.due("by their stamps", x.owed(1, 0), 18);
        x.day(0, 1);
        CHECK.due("three and three are not six", x.company(1, 4), 6);
    }

    /** "if no kind has, it is OWED so much in words" */
    private static void noKindHasEnough() {
        SiegePlate none = Check.townOf("t0 0;c2 3 9;");
        none.day(0, 1);
        CHECK.due("no money at all", none.company(0, 4), 6);
        SiegePlate empty = Check.townOf("t0 0;c2 3 9;m0 1 1;m5 1 1;");
        empty.day(0, 2);
        CHECK.due("too little money", empty.company(0, 4), 12);
        CHECK.due("is left as it is", empty.money(1, 0), 5);
        SiegePlate most = Check.townOf("t999 0;c99 9 9;");
        most.day(0, 9);
        CHECK.due("the most a day", most.company(0, 4), 9 * 891);
    }

    /** "its men times P": 0 .. 9, where nothing is due nothing is taken nor owed. */
    private static void payOfNothing() {
        SiegePlate x = Check.townOf("t0 0;c99 0 9;c0 9 9;m0 1 1;");
        x.day(0, 1);
        for (int c = 0; c < 2; c++) {
            CHECK.due("no words", x.company(c, 4), 0);
            CHECK.due("nothing paid", x.owed(c, 0), 0);
        }
        SiegePlate none = Check.townOf("t0 0;c99 0 9;");
        none.day(0, 1);
        CHECK.due("nothing of no money", none.company(0, 4), 0);
    }

    /** "Then PAY": behind those who desert, of all companies. */
    private static void payOfThoseWhoAreLeft() {
        SiegePlate x = Check.townOf("t0 0;c9 1 9;c10 1 0;m99 1 1;");
        x.day(0, 1);
        CHECK.due("seven of ten are paid", x.owed(1, 2), 7);
        CHECK.due("with the nine", x.money(0, 0), 83);
        SiegePlate last = Check.townOf("t0 0;c1 9 0;m99 1 1;");
        last.day(0, 1);
        CHECK.due("nobody is left to be paid", last.money(0, 0), 99);
    }

    /** "HUNGER is 1 more, if some COMPANY was hungry this DAY, else 1 less" */
    private static void hungerByOneADay() {
        SiegePlate x = Check.townOf("t40 0;c1 0 9;c1 0 9;c1 0 9;");
        x.day(0, 1);
        CHECK.due("one more, though three are hungry", x.told(8), 1);
        x.day(1, 1);
        CHECK.due("one more by 1", x.told(8), 2);
        x.day(2, 1);
        CHECK.due("one less by 2", x.told(8), 1);
        x.day(3, 1);
        CHECK.due("one less by 3", x.told(8), 0);
        SiegePlate some = Check.townOf("t2 0;c1 0 9;c1 0 9;");
        some.day(2, 1);
        CHECK.due("one of two is some", some.told(8), 1);
    }

    /** "(0 at least)" */
    private static void hungerIs0AtLeast() {
        SiegePlate x = Check.townOf("t99 0;c1 0 9;g10;");
        x.day(2, 3);
        CHECK.due("never below", x.told(8), 0);
        CHECK.due("nor cheaper", x.costs(0), 10);
        x.day(0, 1);
        CHECK.due("so one more is 1", x.told(8), 1);
        x.day(2, 2);
        CHECK.due("and two less are 0", x.told(8), 0);
    }

    /** "some COMPANY that had men as the DAY began" */
    private static void hungerOfThoseWhoBeganTheDay() {
        SiegePlate last = Check.townOf("t0 0;c1 0 0;");
        last.day(0, 1);
        CHECK.due("the last man deserts, hungry", last.told(8), 1);
        SiegePlate x = Check.townOf("t10 0;c0 0 0;c5 0 9;");
        x.day(1, 1);
        CHECK.due("some had men", x.told(8), 1);
        x.sally(1, 5);
        // from THE SEED 1 the first DRAW is 16838: no relief by an R of 2
        x.seed(1);
        x.drift(0, 1);
        CHECK.due("none had", x.told(8), 0);
        CHECK.due("though all counted hungry days", x.company(1, 3), 2);
    }

    /** Nothing bounds HUNGER or hungry days: they go on as long as men do. */
    private static void manyHungryDays() {
        SiegePlate x = Check.townOf("t99 0;c1 0 0;c1 0 9;g10;");
        for (int i = 0; i < 3; i++) {
            x.day(0, 9);
            x.day(2, 1);
        }
        CHECK.due("27 hungry and three fed days", x.told(8), 24);
        CHECK.due("prices go with it", x.costs(0), 82);
        CHECK.due("nobody has left since", x.company(1, 0), 1);
        CHECK.due("but for the first", x.company(0, 0), 0);
    }

    /** "(n of them, 1 .. 30"; "OUTSIDE" */
    private static void daysOfACallFrom1To30() {
        SiegePlate x = Check.townOf("t999 0;c1 0 9;");
        CHECK.due("day(2, 0)", x.day(2, 0), Check.OUTSIDE);
        CHECK.due("day(2, -1)", x.day(2, -1), Check.OUTSIDE);
        CHECK.due("day(2, 31)", x.day(2, 31), Check.OUTSIDE);
        CHECK.due("no day went by", x.told(7), 0);
        CHECK.due("day(2, 1)", x.day(2, 1), 1);
        CHECK.due("one day", x.told(7), 1);
        CHECK.due("day(2, 30)", x.day(2, 30), 1);
        CHECK.due("31 days", x.told(7), 31);
        CHECK.due("62 eaten", x.told(0), 937);
        CHECK.due("two calls", x.told(13), 2);
    }

    /** "till no man is left" */
    private static void daysGoTillNoManIsLeft() {
        SiegePlate x = Check.townOf("t0 0;c3 1 0;c1 0 1;m9 1 1;h3 50;");
        CHECK.due("day(0, 30)", x.day(0, 30), 0);
        CHECK.due("3, 2, 1, 0: three days", x.told(7), 3);
        CHECK.due("the horse of the fourth has not come", x.told(0), 0);
        CHECK.due("besieged still", x.told(10), 0);
        CHECK.due("two and one were paid", x.money(0, 0), 6);
        CHECK.due("it is one to undo", x.undo(), 0);
        CHECK.due("all are there", x.told(9), 4);
    }

    /** "where none is, no DAY goes by, nobody is FALLEN by that, but it can be UNDONE" */
    private static void noDayWhereNoManIs() {
        SiegePlate x = Check.townOf("t7 8;c3 1 0;h0 9;");
        x.sally(0, 3);
        CHECK.due("day(2, 30)", x.day(2, 30), 0);
        CHECK.due("no day", x.told(7), 0);
        CHECK.due("no horse", x.told(0), 7);
        CHECK.due("no hunger", x.told(8), 0);
        CHECK.due("no hungry day", x.company(0, 3), 0);
        CHECK.due("not fallen", x.told(10), 0);
        CHECK.due("two to undo", x.told(13), 2);
        CHECK.due("undo the day", x.undo(), 1);
        CHECK.due("men", x.told(9), 0);
        CHECK.due("undo the sally", x.undo(), 0);
        CHECK.due("men", x.told(9), 3);
        SiegePlate nobody = Check.townOf("t7 8;");
        for (int i = 1; i <= 21; i++) {
            CHECK.due("a town of no company", nobody.day(0, 1), 0);
            CHECK.due("to undo", nobody.told(13), Math.min(20, i));
        }
        CHECK.due("DAYS", nobody.told(7), 0);
    }

    /** "FULL: DAYS are above 9000 as it is called (n may pass that)" */
    private static void daysAbove9000() {
        for (boolean drift : new boolean[] {false, true}) {
            SiegePlate x = Check.townOf("t999 0;c1 0 9;");
            Hidden.setDays(x, 9000);
            CHECK.due("at 9000", drift ? x.drift(2, 1) : x.day(2, 1), drift ? 0 : 1);
            CHECK.due("DAYS", x.told(7), 9001);
            CHECK.due("at 9001", drift ? x.drift(2, 1) : x.day(2, 1), Check.FULL);
            CHECK.due("day at 9001", x.day(0, 1), Check.FULL);
            CHECK.due("drift at 9001", x.drift(0, 1), Check.FULL);
            CHECK.due("DAYS still", x.told(7), 9001);
            CHECK.due("one to undo", x.undo(), 0);
            CHECK.due("DAYS undone", x.told(7), 9000);
            Hidden.setDays(x, 8999);
            x.seed(0);
            CHECK.due("30 from 8999", x.day(2, 30), 1);
            CHECK.due("pass 9000", x.told(7), 9029);
            CHECK.due("full by then", x.day(2, 1), Check.FULL);
            CHECK.due("outside is first", x.day(2, 31), Check.OUTSIDE);
            CHECK.due("a gun is heard still", x.gun(), x.told(1));
            CHECK.due("and relief comes", x.relief(true), 9029);
            CHECK.due("which is first", x.day(2, 1), Check.NOT);
        }
    }
}
