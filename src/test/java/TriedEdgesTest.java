import java.util.List;
import java.util.function.Consumer;
import java.util.function.ToIntFunction;

/** The edges of section 3 (TRIED) and of promises 14 to 22: costs to offer. */
public final class TriedEdgesTest {
    private static final Check CHECK = new Check();
    private static final Twins TWINS = new Twins(CHECK);

    public static void main(String[] args) {
        nothingChangesByTrying();
        asIfBesieged();
        allDaysGoWithNoManLeft();
        costsAreCut();
        costsOfGoodsThereAre();
        promisesFrom0To60Days();
        promisesAreCutEachDay();
        promisesByNoneAndMostOdds();
        promisesOfMoneyThereIs();
        rationsFrom1To5Days();
        rationsOfNoSuchDay();
        ofAllRowsTheFirstAndTheLast();
        mostMenThenMostFoodThenTheFirst();
        desertersWithin60Days();
        ofLikeDesertersTheLeast();
        nobodyDeserts();
        holdsFrom0To60();
        rationsOfTrying();
        owedBeforeAnyPay();
        owedDayByDay();
        readingsFrom0To2();
        leastFrom0To5Rioters();
        leastWithoutDebts();
        boughtAtHungerFrom0To99();
        theLeastHunger();
        allThatFits();
        boughtOfWhatThereIs();
        offersOfMore();
        offersWithin9Days();
        offersFromLeastToMost();
        CHECK.end();
    }

    private static void tried(String what, ToIntFunction<SiegePlate> call) {
        for (Consumer<SiegePlate> made : List.<Consumer<SiegePlate>>of(
            Twins::besieged, Twins::relieved, Twins::fallen, Twins::withoutTown)) {
            TWINS.unchanged(what, made, call, call.applyAsInt(Twins.make(made)));
        }
    }

    /** "nothing changes by it" */
    private static void nothingChangesByTrying() {
        tried("costs", x -> x.costs(1));
        tried("promise", x -> x.promise(1, 60));
        for (int n = 1; n <= 5; n++) {
            int days = n;
            tried("rations for " + n, x -> x.rations(days, Check.NONE));
            tried("the last ration for " + n, x -> x.rations(days, days - 1));
        }
        tried("rations of no such i", x -> x.rations(5, 5));
        for (int q = 0; q <= 3; q++) {
            int ration = q;
            tried("firstToDesert", x -> x.firstToDesert(ration));
            tried("holds", x -> x.holds(ration));
        }
        for (int reading = 0; reading <= 2; reading++) {
            int by = reading;
            tried("owed", x -> x.owed(1, by));
            tried("least", x -> x.least(1, by));
        }
        tried("the set of bought", x -> x.bought(0, Check.NONE));
        tried("bought", x -> x.bought(0, 1));
        tried("offer", x -> x.offer(3, 99));
        tried("told", x -> x.told(9));
        tried("company", x -> x.company(0, 0));
        tried("money", x -> x.money(0, 0));
        tried("forged", SiegePlate::forged);
        tried("weighFirst", SiegePlate::weighFirst);
        tried("judge", SiegePlate::judge);
        tried("fault", SiegePlate::fault);
    }

    /** "TRIED from now (as if besieged" */
    private static void asIfBesieged() {
        SiegePlate now = Twins.make(Twins::besieged);
        for (Consumer<SiegePlate> made : List.<Consumer<SiegePlate>>of(Twins::relieved, Twins::fallen)) {
            SiegePlate over = Twins.make(made);
            for (int k = 0; k <= 3; k++) {
                CHECK.due("holds(" + k + ")", over.holds(k), now.holds(k));
                CHECK.due("firstToDesert(" + k + ")", over.firstToDesert(k), now.firstToDesert(k));
                CHECK.due("rations(4, " + k + ")", over.rations(4, k), now.rations(4, k));
                CHECK.due("promise(0, " + k + ")", over.promise(0, k), now.promise(0, k));
                CHECK.due("least(" + k + ", 0)", over.least(k, 0), now.least(k, 0));
            }
            CHECK.due("rations(4, NONE)", over.rations(4, Check.NONE), now.rations(4, Check.NONE));
            CHECK.due("costs(0)", over.costs(0), now.costs(0));
            CHECK.due("offer", over.offer(1, 99999), 1);
        }
        SiegePlate x = Check.townOf("t9 0;c3 0 0;");
        x.relief(false);
        CHECK.due("three are left by 3", x.rations(1, Check.NONE), 3);
        CHECK.due("by 2 of 2 and 3", x.rations(1, 0), 2);
    }

    /** "all DAYS go, also with no man left)" */
    private static void allDaysGoWithNoManLeft() {
        // he can be fed on day 0 and on day 1, never on day 2; who starves him at once has 2 and the horse's 3 in the end
        SiegePlate x = Check.townOf("t2 0;c1 0 0;h1 3;");
        CHECK.due("nobody is left", x.rations(3, Check.NONE), 0);
        for (int i = 0; i < 3; i++) {
            CHECK.due("most food by 0", x.rations(3, i), 0);
        }
        SiegePlate none = Check.townOf("t2 0;c1 0 0;");
        none.sally(0, 1);
        CHECK.due("no man now", none.rations(5, Check.NONE), 0);
        CHECK.due("rations of nobody", none.rations(5, 4), 0);
        CHECK.due("nobody deserts", none.firstToDesert(0), Check.NONE);
        CHECK.due("nobody holds", none.holds(3), 0);
    }

    /** "COSTS: a GOOD C times (10 and 3 times HUNGER) / 10"; "/ cuts towards 0" */
    private static void costsAreCut() {
        SiegePlate x = Check.townOf("t0 0;c1 0 9;g1;g99;g10;");
        int[][] due = {{1, 99, 10}, {1, 128, 13}, {1, 158, 16}, {1, 188, 19}, {2, 217, 22}, {2, 247, 25}};
        for (int hunger = 0; hunger < due.length; hunger++) {
            for (int g = 0; g < 3; g++) {
                CHECK.due("costs(" + g + ") at hunger " + hunger, x.costs(g), due[hunger][g]);
            }
            x.day(0, 1);
        }
        x.undo();
        CHECK.due("undone", x.costs(1), 247);
    }

    /** "UNKNOWN (a GOOD that there is not)" */
    private static void costsOfGoodsThereAre() {
        SiegePlate all = Check.townOf("t0 0;g1;g2;g3;g4;g5;g6;");
        for (int g = 0; g < 6; g++) {
            CHECK.due("costs(" + g + ")", all.costs(g), g + 1);
        }
        CHECK.due("costs(6)", all.costs(6), Check.UNKNOWN);
        CHECK.due("costs(-1)", all.costs(-1), Check.UNKNOWN);
        SiegePlate one = Check.townOf("t0 0;g1;");
        CHECK.due("behind the last", one.costs(1), Check.UNKNOWN);
        CHECK.due("of none", Check.townOf("t0 0;c1 1 1;m1 1 1;").costs(0), Check.UNKNOWN);
    }

    /** "by RELIEF within n days (0 .. 60)" */
    private static void promisesFrom0To60Days() {
        SiegePlate x = Check.townOf("t0 1;m1 99 0;");
        CHECK.due("within -1", x.promise(0, -1), Check.OUTSIDE);
        CHECK.due("within 0", x.promise(0, 0), 0);
        CHECK.due("within 1", x.promise(0, 1), 990);
        // left of a MILLION, each day cut: 552663 behind 59 days, 547136 behind 60
        CHECK.due("within 59", x.promise(0, 59), 44286);
        CHECK.due("within 60", x.promise(0, 60), 44833);
        CHECK.due("within 61", x.promise(0, 61), Check.OUTSIDE);
    }

    /** "each day times (100 less R) / 100, cut) / 1000: in thousandths" */
    private static void promisesAreCutEachDay() {
        SiegePlate x = Check.townOf("t0 1;m1 1 0;m1 3 0;");
        CHECK.due("10 thousandths", x.promise(0, 1), 10);
        CHECK.due("19.9 are cut", x.promise(0, 2), 19);
        CHECK.due("3 times 19.9 are 59.7, cut", x.promise(1, 2), 59);
        // 970299, 960596.01 cut, 950990.04 cut: 49010 are gone of a MILLION
        CHECK.due("within 5", x.promise(0, 5), 49);
        CHECK.due("3 times 49.01", x.promise(1, 5), 147);
    }

    /** R from 0 to 99: no hope, and hope that leaves nothing. */
    private static void promisesByNoneAndMostOdds() {
        SiegePlate none = Check.townOf("t0 0;m1 99 0;");
        CHECK.due("no hope within a day", none.promise(0, 1), 0);
        CHECK.due("no hope within 60", none.promise(0, 60), 0);
        SiegePlate most = Check.townOf("t0 99;m1 99 0;");
        int[] due = {0, 98010, 98990, 98999, 99000, 99000};
        for (int n = 0; n < due.length; n++) {
            CHECK.due("within " + n, most.promise(0, n), due[n]);
        }
        CHECK.due("within 60", most.promise(0, 60), 99000);
    }

    /** "what a SQUARE of a MONEY is worth": whether some are left or not; "UNKNOWN" */
    private static void promisesOfMoneyThereIs() {
        SiegePlate x = Check.townOf("t0 50;m0 1 0;m1 2 0;m1 3 0;m1 4 0;");
        for (int m = 0; m < 4; m++) {
            CHECK.due("promise(" + m + ", 1)", x.promise(m, 1), 500 * (m + 1));
        }
        CHECK.due("promise(4, 1)", x.promise(4, 1), Check.UNKNOWN);
        CHECK.due("promise(-1, 1)", x.promise(-1, 1), Check.UNKNOWN);
        CHECK.due("unknown first", x.promise(4, 61), Check.UNKNOWN);
        x.gun();
        CHECK.due("by the R of now", x.promise(0, 1), 550);
    }

    /** "RATIONS for n days (1 .. 5)" */
    private static void rationsFrom1To5Days() {
        SiegePlate x = Check.townOf("t60 0;c6 0 0;");
        CHECK.due("0 days", x.rations(0, Check.NONE), Check.OUTSIDE);
        for (int n = 1; n <= 5; n++) {
            CHECK.due("men behind " + n, x.rations(n, Check.NONE), 6);
            for (int i = 0; i < n; i++) {
                CHECK.due("ration " + i + " of " + n, x.rations(n, i), 2);
            }
        }
        CHECK.due("6 days", x.rations(6, Check.NONE), Check.OUTSIDE);
        SiegePlate four = Check.townOf("t59 0;c6 0 0;");
        CHECK.due("12 a day for four days", four.rations(4, Check.NONE), 6);
        CHECK.due("not for five", four.rations(5, Check.NONE), 4);
    }

    /** "i = NONE how many men, else the i-th; NONE (no such i)" */
    private static void rationsOfNoSuchDay() {
        SiegePlate x = Check.townOf("t60 0;c6 0 0;");
        for (int n = 1; n <= 5; n++) {
            CHECK.due("the last of " + n, x.rations(n, n - 1), 2);
            CHECK.due("behind the last of " + n, x.rations(n, n), Check.NONE);
            CHECK.due("-2 of " + n, x.rations(n, -2), Check.NONE);
        }
        CHECK.due("the most", x.rations(5, Integer.MAX_VALUE), Check.NONE);
        CHECK.due("the least", x.rations(5, Integer.MIN_VALUE), Check.NONE);
        CHECK.due("outside first", x.rations(6, 9), Check.OUTSIDE);
    }

    /** "of all rows of RATIONS" */
    private static void ofAllRowsTheFirstAndTheLast() {
        // by 3 there is never enough for the first company, so the second is fed: only so nobody deserts
        SiegePlate last = Check.townOf("t8 0;c3 0 9;c2 0 0;h1 6;h2 6;h3 6;h4 6;");
        SiegePlate first = Check.townOf("t8 0;c3 0 9;c2 0 9;h1 6;h2 6;h3 6;h4 6;");
        for (int n = 1; n <= 5; n++) {
            CHECK.due("all are left", last.rations(n, Check.NONE), 5);
            CHECK.due("all are left by nothing", first.rations(n, Check.NONE), 5);
            for (int i = 0; i < n; i++) {
                CHECK.due("the last row", last.rations(n, i), 3);
                CHECK.due("the first row", first.rations(n, i), 0);
            }
        }
    }

    /** "by which most men are left; of like ones with most FOOD left, then the first (day by day the lesser)" */
    private static void mostMenThenMostFoodThenTheFirst() {
        // by 2 or by 3 all are left; by 2 more food is
        SiegePlate food = Check.townOf("t9 0;c3 0 0;");
        CHECK.due("men", food.rations(1, Check.NONE), 3);
        CHECK.due("by 2", food.rations(1, 0), 2);
        // men are worth more than all the food
        SiegePlate men = Check.townOf("t198 0;c99 0 9;c1 0 0;");
        CHECK.due("of 100", men.rations(1, Check.NONE), 100);
        CHECK.due("by 3 the first get nothing", men.rations(1, 0), 3);
        // fed once, on the second day or on the first: the row that begins with the lesser
        SiegePlate first = Check.townOf("t10 0;c5 0 1;");
        CHECK.due("men", first.rations(2, Check.NONE), 5);
        CHECK.due("day 0", first.rations(2, 0), 0);
        CHECK.due("day 1", first.rations(2, 1), 2);
        // with nothing to eat all rows are alike
        SiegePlate bare = Check.townOf("t0 0;c99 0 0;");
        CHECK.due("99, 79, 63, 50, 39, 31", bare.rations(5, Check.NONE), 31);
        for (int i = 0; i < 5; i++) {
            CHECK.due("the first row", bare.rations(5, i), 0);
        }
    }

    /** "the COMPANY of which somebody deserts first; NONE: not within 60 DAYS" */
    private static void desertersWithin60Days() {
        SiegePlate sixtieth = Check.townOf("t118 0;c1 0 0;");
        CHECK.due("fed for 59 days", sixtieth.firstToDesert(2), 0);
        SiegePlate later = Check.townOf("t120 0;c1 0 0;");
        CHECK.due("fed for 60 days", later.firstToDesert(2), Check.NONE);
        SiegePlate bears = Check.townOf("t102 0;c1 0 9;");
        CHECK.due("fed for 51, nine days borne", bears.firstToDesert(2), Check.NONE);
        SiegePlate not = Check.townOf("t101 0;c1 0 9;");
        CHECK.due("fed for 50, nine days borne", not.firstToDesert(2), 0);
    }

    /** "deserts first (of like ones the least)" */
    private static void ofLikeDesertersTheLeast() {
        CHECK.due("the last of five", Check.townOf("t0 0;c9 0 4;c9 0 3;c9 0 2;c9 0 1;c9 0 0;").firstToDesert(0), 4);
        CHECK.due("the first of five", Check.townOf("t0 0;c9 0 0;c9 0 0;c9 0 0;c9 0 0;c9 0 0;").firstToDesert(0), 0);
        CHECK.due("two on one day", Check.townOf("t0 0;c9 0 3;c9 0 1;c9 0 2;c9 0 1;").firstToDesert(1), 1);
        SiegePlate x = Check.townOf("t0 0;c9 0 5;c9 0 6;");
        x.day(0, 5);
        CHECK.due("from now", x.firstToDesert(0), 0);
        // who has deserted already may do so again on the next day
        x.day(0, 2);
        CHECK.due("again", x.firstToDesert(0), 0);
        CHECK.due("five are left of it", x.sally(0, 5), 2);
        CHECK.due("company 0 has none", x.firstToDesert(0), 1);
    }

    /** Of a company without men nobody deserts. */
    private static void nobodyDeserts() {
        CHECK.due("no company", Check.townOf("t0 0;").firstToDesert(0), Check.NONE);
        CHECK.due("no men", Check.townOf("t0 0;c0 0 0;c0 0 0;").firstToDesert(0), Check.NONE);
        CHECK.due("men behind none", Check.townOf("t0 0;c0 0 0;c1 0 9;").firstToDesert(0), 1);
    }

    /** "HOLDS: by RATION q each DAY: how many DAYS (60 at most) till no man is left" */
    private static void holdsFrom0To60() {
        CHECK.due("nobody", Check.townOf("t9 0;").holds(2), 0);
        CHECK.due("no men", Check.townOf("t9 0;c0 0 0;").holds(2), 0);
        CHECK.due("one day", Check.townOf("t0 0;c1 0 0;").holds(0), 1);
        CHECK.due("ten days", Check.townOf("t0 0;c1 0 9;").holds(0), 10);
        CHECK.due("59 days", Check.townOf("t116 0;c1 0 0;").holds(2), 59);
        CHECK.due("60 days", Check.townOf("t118 0;c1 0 0;").holds(2), 60);
        CHECK.due("60 of 61", Check.townOf("t120 0;c1 0 0;").holds(2), 60);
        CHECK.due("60 of many", Check.townOf("t999 0;c1 0 0;").holds(2), 60);
        CHECK.due("till the last company has none", Check.townOf("t0 0;c1 0 0;c1 0 4;c1 0 2;").holds(0), 5);
        CHECK.due("a horse on the way", Check.townOf("t0 0;c1 0 1;h1 2;").holds(2), 4);
    }

    /** "RATION q": 0 .. 3. */
    private static void rationsOfTrying() {
        SiegePlate x = Check.townOf("t30 0;c1 0 1;");
        int[] holds = {2, 2, 17, 12};
        for (int q = 0; q <= 3; q++) {
            CHECK.due("holds(" + q + ")", x.holds(q), holds[q]);
            CHECK.due("firstToDesert(" + q + ")", x.firstToDesert(q), 0);
        }
        CHECK.due("holds(-1)", x.holds(-1), Check.OUTSIDE);
        CHECK.due("holds(4)", x.holds(4), Check.OUTSIDE);
        CHECK.due("firstToDesert(-1)", x.firstToDesert(-1), Check.OUTSIDE);
        CHECK.due("firstToDesert(4)", x.firstToDesert(4), Check.OUTSIDE);
    }

    /** "what was paid to it in SQUARES": nothing yet. */
    private static void owedBeforeAnyPay() {
        SiegePlate x = Check.townOf("t9 0;c2 9 9;c0 9 9;m99 9 9;");
        for (int reading = 0; reading <= 2; reading++) {
            CHECK.due("nothing yet", x.owed(0, reading), 0);
            CHECK.due("nothing yet", x.least(0, reading), 0);
        }
        x.day(0, 1);
        CHECK.due("nothing to nobody", x.owed(1, 0), 0);
        x.undo();
        CHECK.due("nothing again", x.owed(0, 0), 0);
    }

    /** "what was paid to it": on all days, also by the same kind again. */
    private static void owedDayByDay() {
        SiegePlate x = Check.townOf("t0 0;c2 1 9;m5 7 3;");
        int[] squares = {2, 4, 4, 4};
        int[] words = {0, 0, 2, 4};
        for (int day = 0; day < 4; day++) {
            x.day(0, 1);
            CHECK.due("by stamp on day " + day, x.owed(0, 0), 7 * squares[day] + words[day]);
            CHECK.due("by weight on day " + day, x.owed(0, 1), 3 * squares[day] + words[day]);
            CHECK.due("as many on day " + day, x.owed(0, 2), squares[day] + words[day]);
            CHECK.due("words on day " + day, x.company(0, 4), words[day]);
        }
    }

    /** "0 by their stamp V, 1 by weight W, 2 as many as they are; words count 1 each by all"; "OUTSIDE (reading 0 .. 2)" */
    private static void readingsFrom0To2() {
        SiegePlate x = Check.townOf("t0 0;c5 1 9;m5 99 0;m5 1 99;m5 50 50;m5 2 3;");
        x.day(0, 6);
        // five of each kind, and ten in words
        CHECK.due("in words", x.company(0, 4), 10);
        CHECK.due("reading -1", x.owed(0, -1), Check.OUTSIDE);
        CHECK.due("by stamp", x.owed(0, 0), 5 * 152 + 10);
        CHECK.due("by weight", x.owed(0, 1), 5 * 152 + 10);
        CHECK.due("as many", x.owed(0, 2), 30);
        CHECK.due("reading 3", x.owed(0, 3), Check.OUTSIDE);
        CHECK.due("unknown first", x.owed(1, 3), Check.UNKNOWN);
        SiegePlate light = Check.townOf("t0 0;c5 1 9;m5 99 0;");
        light.day(0, 1);
        CHECK.due("of no weight", light.owed(0, 1), 0);
        CHECK.due("by stamp", light.owed(0, 0), 495);
        CHECK.due("least by weight", light.least(0, 1), 0);
    }

    /** "no more than k COMPANIES (0 .. 5) riot, each that does not get all it is OWED by a reading" */
    private static void leastFrom0To5Rioters() {
        SiegePlate x = Check.townOf("t0 0;c3 1 9;c9 1 9;c1 1 9;c9 1 9;c5 1 9;");
        x.day(0, 1);
        int[] due = {27, 18, 9, 4, 1, 0};
        CHECK.due("k -1", x.least(-1, 0), Check.OUTSIDE);
        for (int k = 0; k <= 5; k++) {
            CHECK.due("k " + k, x.least(k, 0), due[k]);
        }
        CHECK.due("k 6", x.least(6, 0), Check.OUTSIDE);
        CHECK.due("reading -1", x.least(0, -1), Check.OUTSIDE);
        CHECK.due("reading 3", x.least(0, 3), Check.OUTSIDE);
        SiegePlate one = Check.townOf("t0 0;c3 1 9;");
        one.day(0, 1);
        CHECK.due("all", one.least(0, 2), 3);
        CHECK.due("as many rioters as companies", one.least(1, 2), 0);
        CHECK.due("more rioters than companies", one.least(5, 2), 0);
        // those who are gone are OWED still
        one.sally(0, 3);
        CHECK.due("who is gone", one.least(0, 2), 3);
    }

    /** No company, no town, or none that is OWED anything: nothing is to be paid. */
    private static void leastWithoutDebts() {
        SiegePlate none = new SiegePlate();
        SiegePlate bare = Check.townOf("t0 0;");
        SiegePlate unpaid = Check.townOf("t0 0;c3 0 9;");
        unpaid.day(0, 3);
        for (int k = 0; k <= 5; k++) {
            CHECK.due("no town", none.least(k, 0), 0);
            CHECK.due("no company", bare.least(k, 1), 0);
            CHECK.due("no debts", unpaid.least(k, 2), 0);
        }
        // nor is anything left of debts that an earlier town had
        SiegePlate x = Check.townOf("t0 0;c9 9 9;");
        x.day(0, 1);
        CHECK.due("81 in words", x.least(0, 0), 81);
        Check.becomes(x, "t0 0;");
        CHECK.due("no company any more", x.least(1, 0), 0);
        Check.becomes(x, "");
        CHECK.due("no town any more", x.least(5, 0), 0);
    }

    /** "at a HUNGER h (0 .. 99) at which that COSTS just V of it" */
    private static void boughtAtHungerFrom0To99() {
        SiegePlate x = Check.townOf("t0 0;m1 3 0;m1 92 0;m1 93 0;m1 2 0;g3;");
        CHECK.due("at 0", x.bought(0, 0), 0);
        CHECK.due("at 99: 92.1 cut", x.bought(1, 0), 99);
        CHECK.due("93 would be at 100", x.bought(2, 0), Check.NONE);
        CHECK.due("cheaper than at 0", x.bought(3, 0), Check.NONE);
        CHECK.due("the set at 99", x.bought(1, Check.NONE), 1);
        CHECK.due("no set at 100", x.bought(2, Check.NONE), 0);
        SiegePlate dear = Check.townOf("t0 0;m1 99 0;m1 98 0;g99;g98;");
        CHECK.due("99 at 0", dear.bought(0, 0), 0);
        CHECK.due("98 is never 99", dear.bought(0, 1), Check.NONE);
        CHECK.due("99 is never 98", dear.bought(1, 0), Check.NONE);
    }

    /** "the least h for a GOOD; NONE": whatever HUNGER is now. */
    private static void theLeastHunger() {
        SiegePlate x = Check.townOf("t0 0;c1 0 9;m1 1 0;m1 2 0;m1 3 0;m1 10 0;g1;g2;g7;");
        // 1 costs 1 at 0 .. 3, 2 at 4 .. 6, 3 at 7 .. 9
        int[] due = {0, 4, 7, 30};
        for (int turn = 0; turn < 2; turn++) {
            for (int m = 0; m < 4; m++) {
                CHECK.due("1 for money " + m, x.bought(m, 0), due[m]);
            }
            CHECK.due("7 for 10: 9 at 1, 11 at 2", x.bought(3, 2), Check.NONE);
            CHECK.due("2 for 3: 3.2 at 2", x.bought(2, 1), 2);
            x.day(0, 5);
        }
    }

    /** "GOODS (a SET) for which there is such an h" */
    private static void allThatFits() {
        SiegePlate all = Check.townOf("t0 0;m1 10 0;g10;g10;g10;g10;g10;g10;");
        CHECK.due("all six", all.bought(0, Check.NONE), 63);
        SiegePlate last = Check.townOf("t0 0;m1 10 0;m1 5 0;g99;g98;g97;g96;g95;g10;");
        CHECK.due("the sixth", last.bought(0, Check.NONE), 32);
        CHECK.due("its hunger", last.bought(0, 5), 0);
        CHECK.due("none", last.bought(1, Check.NONE), 0);
        SiegePlate bare = Check.townOf("t0 0;m0 10 0;");
        CHECK.due("no goods", bare.bought(0, Check.NONE), 0);
    }

    /** "g = NONE the SET"; "UNKNOWN" */
    private static void boughtOfWhatThereIs() {
        SiegePlate x = Check.townOf("t0 0;m1 10 0;m1 11 0;g10;g11;");
        CHECK.due("money 1, good 1", x.bought(1, 1), 0);
        CHECK.due("money 2", x.bought(2, 0), Check.UNKNOWN);
        CHECK.due("money 2, the set", x.bought(2, Check.NONE), Check.UNKNOWN);
        CHECK.due("money -1", x.bought(-1, Check.NONE), Check.UNKNOWN);
        CHECK.due("good 2", x.bought(0, 2), Check.UNKNOWN);
        CHECK.due("good -2", x.bought(0, -2), Check.UNKNOWN);
        CHECK.due("no goods", Check.townOf("t0 0;m0 10 0;").bought(0, 0), Check.UNKNOWN);
        CHECK.due("no money", Check.townOf("t0 0;g10;").bought(0, Check.NONE), Check.UNKNOWN);
    }

    /** "whether x thousandths are more than v SQUARES of the first MONEY are worth: 1, 0" */
    private static void offersOfMore() {
        // left of a MILLION behind nine days 387419: 6125 thousandths a square
        SiegePlate x = Check.townOf("t0 10;m0 10 0;m9 99 0;");
        CHECK.due("less", x.offer(1, 6124), 0);
        CHECK.due("as much", x.offer(1, 6125), 0);
        CHECK.due("more", x.offer(1, 6126), 1);
        CHECK.due("twice as much", x.offer(2, 12250), 0);
        CHECK.due("more than twice", x.offer(2, 12251), 1);
        CHECK.due("999 times", x.offer(999, 6118875), 0);
        CHECK.due("more than 999 times", x.offer(999, 6118876), 1);
    }

    /** "by PROMISE within 9 days": 5695 within 8, 6513 within 10; by the R of now. */
    private static void offersWithin9Days() {
        SiegePlate x = Check.townOf("t0 10;m0 10 0;");
        CHECK.due("within 8", x.promise(0, 8), 5695);
        CHECK.due("within 9", x.promise(0, 9), 6125);
        CHECK.due("within 10", x.promise(0, 10), 6513);
        CHECK.due("more than within 8", x.offer(1, 5696), 0);
        CHECK.due("more than within 9", x.offer(1, 6126), 1);
        x.gun();
        CHECK.due("R is more", x.offer(1, 6126), 0);
    }

    /** "x thousandths (0 .. 99999999)", "v SQUARES (1 .. 999)"; "OUTSIDE, NOT: no MONEY" */
    private static void offersFromLeastToMost() {
        SiegePlate hopeless = Check.townOf("t0 0;m1 99 0;");
        CHECK.due("nothing for nothing", hopeless.offer(999, 0), 0);
        CHECK.due("one for nothing", hopeless.offer(999, 1), 1);
        SiegePlate sure = Check.townOf("t0 99;m1 99 0;");
        CHECK.due("the dearest", sure.offer(999, 98901000), 0);
        CHECK.due("one more", sure.offer(999, 98901001), 1);
        CHECK.due("the most", sure.offer(999, 99999999), 1);
        CHECK.due("beyond the most", sure.offer(999, 100000000), Check.OUTSIDE);
        CHECK.due("below nothing", sure.offer(999, -1), Check.OUTSIDE);
        CHECK.due("0 squares", sure.offer(0, 5), Check.OUTSIDE);
        CHECK.due("1000 squares", sure.offer(1000, 5), Check.OUTSIDE);
        CHECK.due("no money", Check.townOf("t0 50;c1 1 1;").offer(1, 5), Check.NOT);
        CHECK.due("no money, outside", Check.townOf("t0 50;c1 1 1;").offer(0, 5), Check.OUTSIDE);
        CHECK.due("no squares, but a kind", Check.townOf("t0 50;m0 1 0;").offer(1, 5), 0);
    }
}
