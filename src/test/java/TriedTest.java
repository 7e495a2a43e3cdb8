/** Promises 14 to 22: costs, promise, rations, firstToDesert, holds, owed, least, bought, offer. */
public final class TriedTest {
    private static final Check CHECK = new Check();
    private static final String TOWN =
        "t90 5;c10 2 1;c20 1 0;c5 3 4;m60 10 8;m50 5 1;g10;g4;g7;h2 30;";

    public static void main(String[] args) {
        costs();
        promises();
        rations();
        rationsOfLikeRows();
        rationsByBurningFood();
        rationsRefused();
        firstToDesert();
        holds();
        alsoWhenItIsOver();
        owed();
        least();
        bought();
        offers();
        withoutATown();
        CHECK.end();
    }

    private static void costs() {
        SiegePlate x = Check.townOf(TOWN);
        CHECK.tried("costs(0)", x, () -> x.costs(0), 10);
        x.day(0, 3);
        CHECK.tried("10 by hunger 3", x, () -> x.costs(0), 19);
        CHECK.tried("4 by hunger 3: 7.6 cut", x, () -> x.costs(1), 7);
        CHECK.tried("7 by hunger 3: 13.3 cut", x, () -> x.costs(2), 13);
        CHECK.refused("costs(3)", x, () -> x.costs(3), Check.UNKNOWN);
        CHECK.refused("costs(-1)", x, () -> x.costs(-1), Check.UNKNOWN);
    }

    private static void promises() {
        SiegePlate x = Check.townOf("t0 33;m9 7 0;m9 99 0;");
        CHECK.tried("within no day", x, () -> x.promise(0, 0), 0);
        CHECK.tried("within a day", x, () -> x.promise(0, 1), 2310);
        // left: 670000, 448900, 300763, 201511.21 cut
        CHECK.tried("within 4: 7 x 798489", x, () -> x.promise(0, 4), 5589);
        // cut each day 60606 are left behind 7 days, cut at the end 60607 would be
        CHECK.tried("within 7", x, () -> x.promise(1, 7), 93000);
        CHECK.tried("the second money", x, () -> x.promise(1, 1), 32670);
        CHECK.tried("within 60 no more than the stamp", x, () -> x.promise(1, 60), 99000);
        CHECK.refused("n 61", x, () -> x.promise(1, 61), Check.OUTSIDE);
        CHECK.refused("n -1", x, () -> x.promise(1, -1), Check.OUTSIDE);
        CHECK.refused("money 2", x, () -> x.promise(2, 61), Check.UNKNOWN);
        CHECK.refused("money -1", x, () -> x.promise(-1, 1), Check.UNKNOWN);
        x.gun();
        CHECK.tried("by the R of now", x, () -> x.promise(0, 1), 2660);
        SiegePlate hopeless = Check.townOf("t0 0;m9 7 0;");
        CHECK.due("without hope", hopeless.promise(0, 60), 0);
    }

    private static void row(SiegePlate x, int n, int men, int... rations) {
        CHECK.tried("rations(" + n + ", NONE)", x, () -> x.rations(n, Check.NONE), men);
        for (int i = 0; i < n; i++) {
            int at = i;
            CHECK.tried("rations(" + n + ", " + i + ")", x, () -> x.rations(n, at), rations[i]);
        }
    }

    private static void rations() {
        SiegePlate x = Check.townOf(TOWN);
        row(x, 1, 35, 2);
        row(x, 2, 30, 0, 2);
        CHECK.due("five days", x.rations(5, Check.NONE), 23);
        SiegePlate fed = Check.townOf("t999 0;c9 0 0;");
        row(fed, 5, 9, 2, 2, 2, 2, 2);
        SiegePlate horse = Check.townOf("t0 0;c9 0 1;h1 18;h3 18;");
        row(horse, 4, 9, 0, 2, 0, 2);
        // a horse of the last day is food left, too
        SiegePlate late = Check.townOf("t18 0;c9 0 1;h2 20;");
        row(late, 3, 9, 0, 2, 0);
    }

    private static void rationsOfLikeRows() {
        // he bears all: no ration leaves most food
        SiegePlate patient = Check.townOf("t50 0;c5 0 9;");
        row(patient, 5, 5, 0, 0, 0, 0, 0);
        // with no food all rows are alike
        SiegePlate bare = Check.townOf("t0 0;c5 0 0;");
        row(bare, 3, 1, 0, 0, 0);
        // fed on the first day or on the second is alike in men and food: the lesser row
        SiegePlate once = Check.townOf("t10 0;c5 0 1;");
        row(once, 3, 5, 0, 2, 0);
        SiegePlate nobody = Check.townOf("t9 0;");
        row(nobody, 2, 0, 0, 0);
    }

    private static void rationsByBurningFood() {
        // on the second day by 3 company 0 eats 6 of 13, company 1 bears it, and 7 are left: by 2 only 1
        SiegePlate second = Check.townOf("t25 0;c2 0 0;c4 0 1;");
        row(second, 2, 6, 2, 3);
        // a first day by 1 burns 7 of 26, so that on the third company 0 bears it and 3 are left, not 2
        SiegePlate first = Check.townOf("t26 0;c4 0 1;c3 0 0;");
        row(first, 3, 6, 1, 2, 2);
    }

    private static void rationsRefused() {
        SiegePlate x = Check.townOf(TOWN);
        CHECK.refused("n 0", x, () -> x.rations(0, -1), Check.OUTSIDE);
        CHECK.refused("n 6", x, () -> x.rations(6, -1), Check.OUTSIDE);
        CHECK.tried("no such i", x, () -> x.rations(2, 2), Check.NONE);
        CHECK.tried("no i -2", x, () -> x.rations(2, -2), Check.NONE);
        CHECK.tried("a far i", x, () -> x.rations(5, Integer.MAX_VALUE), Check.NONE);
        SiegePlate none = new SiegePlate();
        CHECK.refused("no town", none, () -> none.rations(2, 9), Check.NOT);
        CHECK.refused("no town, outside", none, () -> none.rations(6, 0), Check.OUTSIDE);
    }

    private static void firstToDesert() {
        SiegePlate x = Check.townOf(TOWN);
        for (int q = 0; q < 4; q++) {
            int ration = q;
            CHECK.tried("firstToDesert(" + q + ")", x, () -> x.firstToDesert(ration), 1);
        }
        SiegePlate like = Check.townOf("t0 0;c0 0 0;c5 0 3;c5 0 2;c5 0 2;");
        CHECK.tried("of like ones the least", like, () -> like.firstToDesert(0), 2);
        like.sally(2, 5);
        CHECK.tried("nobody cannot desert", like, () -> like.firstToDesert(0), 3);
        like.day(0, 1);
        like.sally(3, 5);
        CHECK.tried("from now", like, () -> like.firstToDesert(0), 1);
        // 2 a day for 60 days, and one less
        SiegePlate fed = Check.townOf("t120 0;c1 0 0;");
        CHECK.tried("not within 60", fed, () -> fed.firstToDesert(2), Check.NONE);
        SiegePlate almost = Check.townOf("t119 0;c1 0 0;");
        CHECK.tried("on the 60th", almost, () -> almost.firstToDesert(2), 0);
        SiegePlate nobody = Check.townOf("t1 0;");
        CHECK.tried("nobody", nobody, () -> nobody.firstToDesert(0), Check.NONE);
        CHECK.refused("q 4", x, () -> x.firstToDesert(4), Check.OUTSIDE);
        CHECK.refused("q -1", x, () -> x.firstToDesert(-1), Check.OUTSIDE);
    }

    private static void holds() {
        SiegePlate x = Check.townOf(TOWN);
        int[] due = {9, 9, 11, 10};
        for (int q = 0; q < 4; q++) {
            int ration = q;
            CHECK.tried("holds(" + q + ")", x, () -> x.holds(ration), due[q]);
        }
        SiegePlate fed = Check.townOf("t999 0;c1 0 0;");
        CHECK.tried("60 at most", fed, () -> fed.holds(2), 60);
        SiegePlate just = Check.townOf("t116 0;c1 0 0;");
        CHECK.tried("till the 59th", just, () -> just.holds(2), 59);
        fed.sally(0, 1);
        CHECK.tried("none now", fed, () -> fed.holds(2), 0);
        CHECK.refused("q 4", x, () -> x.holds(4), Check.OUTSIDE);
        CHECK.refused("q -1", x, () -> x.holds(-1), Check.OUTSIDE);
    }

    private static void alsoWhenItIsOver() {
        SiegePlate x = Check.townOf(TOWN);
        x.relief(false);
        CHECK.tried("rations", x, () -> x.rations(2, 1), 2);
        CHECK.tried("holds", x, () -> x.holds(2), 11);
        CHECK.tried("firstToDesert", x, () -> x.firstToDesert(2), 1);
        CHECK.tried("promise", x, () -> x.promise(0, 1), 500);
    }

    private static void owed() {
        SiegePlate x = Check.townOf("t0 0;c2 2 9;c3 3 9;m5 7 2;m4 5 3;");
        CHECK.tried("nothing yet", x, () -> x.owed(0, 0), 0);
        x.day(0, 1);
        // company 0: 4 of the first kind; company 1: 9 in words
        x.day(0, 1);
        // company 0: 4 of the second kind
        CHECK.tried("by stamp", x, () -> x.owed(0, 0), 48);
        CHECK.tried("by weight", x, () -> x.owed(0, 1), 20);
        CHECK.tried("as many", x, () -> x.owed(0, 2), 8);
        CHECK.tried("words by stamp", x, () -> x.owed(1, 0), 18);
        CHECK.tried("words by weight", x, () -> x.owed(1, 1), 18);
        CHECK.tried("words as many", x, () -> x.owed(1, 2), 18);
        CHECK.refused("reading 3", x, () -> x.owed(1, 3), Check.OUTSIDE);
        CHECK.refused("reading -1", x, () -> x.owed(1, -1), Check.OUTSIDE);
        CHECK.refused("company 2", x, () -> x.owed(2, 3), Check.UNKNOWN);
        CHECK.refused("company -1", x, () -> x.owed(-1, 0), Check.UNKNOWN);
    }

    private static void least() {
        SiegePlate x = Check.townOf("t0 0;c5 1 9;c9 1 9;c0 1 9;c7 1 9;c9 1 9;");
        CHECK.tried("nothing yet", x, () -> x.least(0, 0), 0);
        x.day(0, 1);
        int[] due = {30, 21, 12, 5, 0, 0};
        for (int k = 0; k < 6; k++) {
            int rioters = k;
            CHECK.tried("least(" + k + ", 0)", x, () -> x.least(rioters, 0), due[k]);
        }
        // twice the same: what is struck off is only tried
        CHECK.tried("least(1, 2)", x, () -> x.least(1, 2), 21);
        // who is owed most differs by reading
        SiegePlate y = Check.townOf("t0 0;c2 5 9;c3 4 9;m10 9 1;m12 2 9;");
        y.day(0, 1);
        CHECK.tried("by stamp 90 and 24", y, () -> y.least(1, 0), 24);
        CHECK.tried("by weight 10 and 108", y, () -> y.least(1, 1), 10);
        CHECK.tried("as many: 10 and 12", y, () -> y.least(1, 2), 10);
        CHECK.refused("k 6", x, () -> x.least(6, 0), Check.OUTSIDE);
        CHECK.refused("k -1", x, () -> x.least(-1, 0), Check.OUTSIDE);
        CHECK.refused("reading 3", x, () -> x.least(0, 3), Check.OUTSIDE);
        CHECK.refused("reading -1", x, () -> x.least(0, -1), Check.OUTSIDE);
    }

    private static void bought() {
        SiegePlate x = Check.townOf("t0 0;m1 10 0;m1 30 0;m1 99 0;m1 31 0;g10;g4;g7;g1;g99;");
        // 4 at hunger 5: 4 x 25 / 10; 7 at hunger 1 is 9, at 2 is 11; 1 at hunger 30
        CHECK.tried("all that fits 10", x, () -> x.bought(0, Check.NONE), 1 | 2 | 8);
        CHECK.tried("10 for 10", x, () -> x.bought(0, 0), 0);
        CHECK.tried("4 for 10", x, () -> x.bought(0, 1), 5);
        CHECK.tried("7 for 10", x, () -> x.bought(0, 2), Check.NONE);
        CHECK.tried("1 for 10", x, () -> x.bought(0, 3), 30);
        CHECK.tried("99 for 10", x, () -> x.bought(0, 4), Check.NONE);
        // 1 at hunger 97 is 30.1, at 99 is 30.7
        CHECK.tried("1 for 30", x, () -> x.bought(1, 3), 97);
        CHECK.tried("1 for 31 never", x, () -> x.bought(3, 3), Check.NONE);
        CHECK.tried("99 for 99", x, () -> x.bought(2, 4), 0);
        // 3 at hunger 99 is 92.1; 93 would be hunger 100
        SiegePlate hungriest = Check.townOf("t0 0;m1 92 0;m1 93 0;g3;");
        CHECK.tried("3 for 92", hungriest, () -> hungriest.bought(0, 0), 99);
        CHECK.tried("a set of it", hungriest, () -> hungriest.bought(0, Check.NONE), 1);
        CHECK.tried("3 for 93", hungriest, () -> hungriest.bought(1, 0), Check.NONE);
        CHECK.tried("an empty set", hungriest, () -> hungriest.bought(1, Check.NONE), 0);
        CHECK.refused("money 4", x, () -> x.bought(4, 0), Check.UNKNOWN);
        CHECK.refused("money -1", x, () -> x.bought(-1, 0), Check.UNKNOWN);
        CHECK.refused("good 5", x, () -> x.bought(0, 5), Check.UNKNOWN);
        CHECK.refused("good -2", x, () -> x.bought(0, -2), Check.UNKNOWN);
        SiegePlate bare = Check.townOf("t0 0;m1 10 0;");
        CHECK.tried("no goods", bare, () -> bare.bought(0, Check.NONE), 0);
    }

    private static void offers() {
        // left of a million by 50: 1953 behind nine days; 3 x 998047 / 1000 is 2994
        SiegePlate x = Check.townOf("t0 50;m1 3 0;m1 99 0;");
        CHECK.tried("promise", x, () -> x.promise(0, 9), 2994);
        CHECK.tried("as much", x, () -> x.offer(1, 2994), 0);
        CHECK.tried("more", x, () -> x.offer(1, 2995), 1);
        CHECK.tried("999 times as much", x, () -> x.offer(999, 2994 * 999), 0);
        CHECK.tried("999 times, and one", x, () -> x.offer(999, 2994 * 999 + 1), 1);
        CHECK.tried("nothing", x, () -> x.offer(1, 0), 0);
        SiegePlate dear = Check.townOf("t0 99;m1 99 0;");
        CHECK.tried("the dearest", dear, () -> dear.offer(999, 98901000), 0);
        CHECK.tried("all", dear, () -> dear.offer(999, 99999999), 1);
        CHECK.refused("v 0", x, () -> x.offer(0, 1), Check.OUTSIDE);
        CHECK.refused("v 1000", x, () -> x.offer(1000, 1), Check.OUTSIDE);
        CHECK.refused("x -1", x, () -> x.offer(1, -1), Check.OUTSIDE);
        CHECK.refused("x 100000000", x, () -> x.offer(1, 100000000), Check.OUTSIDE);
        SiegePlate bare = Check.townOf("t0 50;c1 1 1;");
        CHECK.refused("no money", bare, () -> bare.offer(1, 1), Check.NOT);
        CHECK.refused("no money, outside", bare, () -> bare.offer(0, 1), Check.OUTSIDE);
    }

    private static void withoutATown() {
        SiegePlate x = new SiegePlate();
        CHECK.refused("firstToDesert", x, () -> x.firstToDesert(0), Check.NOT);
        CHECK.refused("firstToDesert outside", x, () -> x.firstToDesert(9), Check.OUTSIDE);
        CHECK.refused("holds", x, () -> x.holds(0), Check.NOT);
        CHECK.refused("holds outside", x, () -> x.holds(9), Check.OUTSIDE);
        CHECK.tried("least", x, () -> x.least(5, 2), 0);
        CHECK.refused("offer", x, () -> x.offer(1, 1), Check.NOT);
    }
}
