/** The edges of promises 9 to 13 (gun, sally, relief, drift, undo), BY DRAWS and UNDONE. */
public final class DoneEdgesTest {
    private static final Check CHECK = new Check();

    public static void main(String[] args) {
        gunsBy5();
        oddsAre99AtMost();
        salliesByHalf();
        salliesFrom1To99();
        notSoMany();
        theyAreGone();
        reliefTellsDays();
        relievedAndFallenForGood();
        driftFrom1To30();
        drawsBelowR();
        drawsOfSix();
        gunsOfDraws99AtMost();
        noDrawBehindRelief();
        fallenBehindTheLastMan();
        driftWithNoManLeft();
        onlyRelievedOrFallenEndsIt();
        theDrawsWrapAround();
        driftIsUndoneAtOnce();
        undoneOfEachKind();
        undoneOfAllThereCanBe();
        twentyCanBeUndone();
        theOldestAreLostAgainAndAgain();
        refusedOnesAreNotUndone();
        undoLeavesAllElse();
        CHECK.end();
    }

    /** "A GUN far off: R is 5 more (99 at most)" */
    private static void gunsBy5() {
        int[] before = {0, 1, 93, 94, 95, 98, 99};
        int[] behind = {5, 6, 98, 99, 99, 99, 99};
        for (int i = 0; i < before.length; i++) {
            SiegePlate x = Check.townOf("t0 " + before[i] + ";");
            CHECK.due("gun() at " + before[i], x.gun(), behind[i]);
            CHECK.due("R behind it", x.told(1), behind[i]);
            CHECK.due("it can be undone", x.undo(), 0);
            CHECK.due("R undone", x.told(1), before[i]);
        }
    }

    /** The same, by many guns. */
    private static void oddsAre99AtMost() {
        SiegePlate x = Check.townOf("t0 0;c9 0 0;m1 1 1;");
        for (int i = 1; i <= 25; i++) {
            CHECK.due("gun " + i, x.gun(), Math.min(99, 5 * i));
        }
        CHECK.due("a sally at 99", x.sally(0, 9), 99);
        CHECK.due("R", x.told(1), 99);
    }

    /** "A SALLY of k men of a COMPANY: R is k / 2 more (99 at most)" */
    private static void salliesByHalf() {
        int[] k = {1, 2, 3, 4, 98, 99};
        int[] more = {0, 1, 1, 2, 49, 49};
        for (int i = 0; i < k.length; i++) {
            SiegePlate x = Check.townOf("t0 40;c99 0 0;");
            CHECK.due("sally of " + k[i], x.sally(0, k[i]), 40 + more[i]);
            CHECK.due("R behind it", x.told(1), 40 + more[i]);
        }
        int[] before = {49, 50, 51, 98, 99};
        for (int r : before) {
            SiegePlate x = Check.townOf("t0 " + r + ";c99 0 0;");
            CHECK.due("sally of 99 at " + r, x.sally(0, 99), Math.min(99, r + 49));
        }
    }

    /** "A SALLY of k men (1 .. 99): OUTSIDE" */
    private static void salliesFrom1To99() {
        SiegePlate x = Check.townOf("t0 0;c99 0 0;c99 0 0;");
        CHECK.due("0", x.sally(0, 0), Check.OUTSIDE);
        CHECK.due("-1", x.sally(0, -1), Check.OUTSIDE);
        CHECK.due("100", x.sally(0, 100), Check.OUTSIDE);
        CHECK.due("1", x.sally(0, 1), 0);
        CHECK.due("99", x.sally(1, 99), 49);
        CHECK.due("98 are left", x.told(9), 98);
        CHECK.due("company 2", x.sally(2, 1), Check.UNKNOWN);
        CHECK.due("company -1", x.sally(-1, 1), Check.UNKNOWN);
        CHECK.due("company 2, outside", x.sally(2, 100), Check.UNKNOWN);
    }

    /** "NOT: there are not so many" */
    private static void notSoMany() {
        SiegePlate x = Check.townOf("t0 0;c5 0 0;c0 0 0;");
        CHECK.due("6 of 5", x.sally(0, 6), Check.NOT);
        CHECK.due("99 of 5", x.sally(0, 99), Check.NOT);
        CHECK.due("100 of 5", x.sally(0, 100), Check.OUTSIDE);
        CHECK.due("1 of none", x.sally(1, 1), Check.NOT);
        CHECK.due("nothing to undo", x.told(13), 0);
        CHECK.due("5 of 5", x.sally(0, 5), 2);
        CHECK.due("none is left", x.company(0, 0), 0);
        CHECK.due("1 of none now", x.sally(0, 1), Check.NOT);
        CHECK.due("besieged still", x.told(10), 0);
    }

    /** "they are gone": of that company alone, and neither fed nor paid from then on. */
    private static void theyAreGone() {
        SiegePlate x = Check.townOf("t100 0;c9 2 9;c9 1 9;m99 1 1;");
        x.day(0, 2);
        x.sally(0, 4);
        CHECK.due("men of the one", x.company(0, 0), 5);
        CHECK.due("men of the other", x.company(1, 0), 9);
        CHECK.due("hungry days stay", x.company(0, 3), 2);
        CHECK.due("squares stay", x.money(0, 0), 45);
        CHECK.due("no day went by", x.told(7), 2);
        x.day(2, 1);
        CHECK.due("14 eat", x.told(0), 72);
        CHECK.due("5 and 9 are paid", x.money(0, 0), 26);
    }

    /** "RELIEVED (is), or FALLEN: DAYS." */
    private static void reliefTellsDays() {
        SiegePlate x = Check.townOf("t99 0;c1 0 9;");
        CHECK.due("on day 0", x.relief(false), 0);
        CHECK.due("fallen", x.told(10), 2);
        x.undo();
        x.day(2, 7);
        CHECK.due("on day 7", x.relief(true), 7);
        CHECK.due("relieved", x.told(10), 1);
        CHECK.due("no day more", x.told(7), 7);
        SiegePlate nobody = Check.townOf("t0 0;");
        CHECK.due("a town of nobody", nobody.relief(true), 0);
    }

    /** "RELIEVED, FALLEN: for good; no DAY more." */
    private static void relievedAndFallenForGood() {
        for (boolean is : new boolean[] {true, false}) {
            SiegePlate x = Check.townOf("t99 5;c9 0 9;");
            x.relief(is);
            String over = Check.besieged(x);
            CHECK.due("day", x.day(2, 1), Check.NOT);
            CHECK.due("gun", x.gun(), Check.NOT);
            CHECK.due("sally", x.sally(0, 1), Check.NOT);
            CHECK.due("relief(true)", x.relief(true), Check.NOT);
            CHECK.due("relief(false)", x.relief(false), Check.NOT);
            CHECK.due("drift", x.drift(2, 1), Check.NOT);
            CHECK.due("no draw", Check.seedOf(x), 0);
            CHECK.same("for good", Check.besieged(x), over);
            CHECK.due("one to undo", x.undo(), 0);
            CHECK.due("besieged again", x.told(10), 0);
            CHECK.due("a gun", x.gun(), 10);
        }
    }

    private static long next(long seed) {
        return (seed * 1103515245L + 12345L) % 2147483648L;
    }

    /** The least seed from which the draws of 100 and then of 6 are these. */
    private static int seedFor(int ofHundred, int ofSix) {
        for (int seed = 0; seed < 100000; seed++) {
            long first = next(seed);
            if (first / 65536 % 100 == ofHundred && next(first) / 65536 % 6 == ofSix) {
                return seed;
            }
        }
        throw new IllegalStateException("no seed draws " + ofHundred + " and " + ofSix);
    }

    /** "n DAYS (1 .. 30) BY DRAWS with a RATION q"; "OUTSIDE" */
    private static void driftFrom1To30() {
        SiegePlate x = Check.townOf("t999 0;c1 0 9;");
        CHECK.due("drift(2, 0)", x.drift(2, 0), Check.OUTSIDE);
        CHECK.due("drift(2, 31)", x.drift(2, 31), Check.OUTSIDE);
        CHECK.due("drift(-1, 1)", x.drift(-1, 1), Check.OUTSIDE);
        CHECK.due("drift(4, 1)", x.drift(4, 1), Check.OUTSIDE);
        CHECK.due("no draw", Check.seedOf(x), 0);
        x.seed(seedFor(50, 1));
        CHECK.due("drift(3, 1)", x.drift(3, 1), 0);
        CHECK.due("one day", x.told(7), 1);
        CHECK.due("by 3", x.told(0), 996);
        CHECK.due("drift(0, 1)", x.drift(0, 1), 0);
        CHECK.due("by 0", x.told(0), 996);
        SiegePlate quiet = Check.townOf("t999 0;c1 0 9;");
        quiet.seed(quietSeed());
        CHECK.due("drift(2, 30)", quiet.drift(2, 30), 0);
        CHECK.due("30 days", quiet.told(7), 30);
        CHECK.due("60 eaten", quiet.told(0), 939);
    }

    /** From which thirty days go by with guns, but without relief. */
    private static int quietSeed() {
        for (int start = 0; start < 1000000; start++) {
            long seed = start;
            long odds = 0;
            int days = 0;
            for (; days < 30; days++) {
                seed = next(seed);
                if (seed / 65536 % 100 < odds) {
                    break;
                }
                seed = next(seed);
                odds += seed / 65536 % 6 == 0 ? 5 : 0;
            }
            if (days == 30) {
                return start;
            }
        }
        throw new IllegalStateException("no quiet seed");
    }

    /** "a DRAW of 100: below R it is RELIEVED" */
    private static void drawsBelowR() {
        int[][] rows = {{0, 0, 0}, {1, 0, 1}, {1, 1, 0}, {50, 49, 1}, {50, 50, 0}, {50, 51, 0}, {99, 98, 1}, {99, 99, 0}};
        for (int[] row : rows) {
            SiegePlate x = Check.townOf("t99 " + row[0] + ";c1 0 9;");
            x.seed(seedFor(row[1], 1));
            CHECK.due("a draw of " + row[1] + " by R " + row[0], x.drift(2, 1), row[2]);
            CHECK.due("told(10)", x.told(10), row[2]);
            CHECK.due("a day", x.told(7), 1 - row[2]);
            CHECK.due("R", x.told(1), row[0]);
        }
    }

    /** "else a DRAW of 6: on 0 a GUN is heard; then the DAY" */
    private static void drawsOfSix() {
        for (int draw = 0; draw < 6; draw++) {
            SiegePlate x = Check.townOf("t99 7;c1 0 9;");
            x.seed(seedFor(70, draw));
            CHECK.due("a draw of 6: " + draw, x.drift(2, 1), 0);
            CHECK.due("R", x.told(1), draw == 0 ? 12 : 7);
            CHECK.due("the day", x.told(7), 1);
            CHECK.due("its meal", x.told(0), 97);
        }
    }

    /** "R is 5 more (99 at most)": also by draws. */
    private static void gunsOfDraws99AtMost() {
        int[] before = {93, 94, 95, 98, 99};
        int[] behind = {98, 99, 99, 99, 99};
        for (int i = 0; i < before.length; i++) {
            SiegePlate x = Check.townOf("t99 " + before[i] + ";c1 0 9;");
            x.seed(seedFor(99, 0));
            CHECK.due("no relief", x.drift(2, 1), 0);
            CHECK.due("R from " + before[i], x.told(1), behind[i]);
        }
    }

    /** "while neither RELIEVED nor FALLEN": where it is RELIEVED, no draw of 6, no DAY and no draw more. */
    private static void noDrawBehindRelief() {
        int seed = seedFor(3, 0);
        SiegePlate x = Check.townOf("t99 4;c1 0 9;h0 9;");
        x.seed(seed);
        CHECK.due("relieved", x.drift(2, 30), 1);
        CHECK.due("by one draw", Check.seedOf(x), next(seed));
        CHECK.due("no gun", x.told(1), 4);
        CHECK.due("no day", x.told(7), 0);
        CHECK.due("no horse", x.told(0), 99);
        CHECK.due("one to undo", x.told(13), 1);
    }

    /** "FALLEN, if no man is left behind it" */
    private static void fallenBehindTheLastMan() {
        SiegePlate x = Check.townOf("t0 0;c3 0 0;c0 0 9;");
        int seed = seedFor(50, 1);
        x.seed(seed);
        // 3, 2, 1, 0: two draws on each of three days
        CHECK.due("drift(0, 2)", x.drift(0, 2), 0);
        CHECK.due("one is left", x.told(9), 1);
        CHECK.due("besieged", x.told(10), 0);
        long due = seed;
        for (int i = 0; i < 4; i++) {
            due = next(due);
        }
        CHECK.due("four draws", Check.seedOf(x), due);
        x.undo();
        x.seed(seedFor(99, 2));
        CHECK.due("drift(0, 30)", x.drift(0, 30), 2);
        CHECK.due("three days", x.told(7), 3);
        CHECK.due("fallen", x.told(10), 2);
        due = seedFor(99, 2);
        for (int i = 0; i < 6; i++) {
            due = next(due);
        }
        CHECK.due("six draws", Check.seedOf(x), due);
        CHECK.due("no day more", x.drift(0, 1), Check.NOT);
    }

    /** The same where nobody was left ahead of it: the DAY goes by, then it is FALLEN. */
    private static void driftWithNoManLeft() {
        SiegePlate x = Check.townOf("t5 4;c2 0 0;h0 6;");
        x.sally(0, 2);
        CHECK.due("nobody is left, besieged", x.told(10), 0);
        x.seed(seedFor(50, 1));
        CHECK.due("drift(2, 30)", x.drift(2, 30), 2);
        CHECK.due("one day", x.told(7), 1);
        CHECK.due("its horse", x.told(0), 11);
        CHECK.due("undo", x.undo(), 1);
        x.seed(seedFor(4, 1));
        CHECK.due("relief comes ahead of it", x.drift(2, 30), 1);
        SiegePlate nobody = Check.townOf("t5 0;");
        CHECK.due("a town of no company", nobody.drift(0, 1), 2);
    }

    /** day() leaves a town without men besieged, drift() does not; relief by draws is as relief(true). */
    private static void onlyRelievedOrFallenEndsIt() {
        SiegePlate x = Check.townOf("t0 9;c1 0 0;");
        x.day(0, 1);
        CHECK.due("day leaves it besieged", x.told(10), 0);
        CHECK.due("a gun is heard", x.gun(), 14);
        x.seed(seedFor(13, 1));
        CHECK.due("drift relieves it", x.drift(0, 1), 1);
        CHECK.due("for good", x.gun(), Check.NOT);
    }

    /** "(it times 1103515245 and 12345, left over by 2 to the 31": never below 0. */
    private static void theDrawsWrapAround() {
        long[] seeds = {0, 1, 2, 3, 65535, 65536, 1 << 30, (1L << 31) - 2, (1L << 31) - 1};
        for (long seed : seeds) {
            SiegePlate x = Check.townOf("t9 0;c1 0 9;");
            x.seed((int) seed);
            x.drift(0, 1);
            CHECK.due("two draws from " + seed, Check.seedOf(x), next(next(seed)));
            CHECK.due("a gun from " + seed, x.told(1), next(next(seed)) / 65536 % 6 == 0 ? 5 : 0);
        }
    }

    /** "the latest of drift()": all its days are one; "THE SEED stays". */
    private static void driftIsUndoneAtOnce() {
        SiegePlate x = Check.townOf("t99 0;c9 1 9;m99 9 9;g9;");
        x.day(1, 1);
        String before = Check.besieged(x);
        x.seed(quietSeed());
        x.drift(1, 5);
        int seed = Check.seedOf(x);
        CHECK.due("undo", x.undo(), 1);
        CHECK.same("as ahead of it", Check.besieged(x), before);
        CHECK.due("the seed stays", Check.seedOf(x), seed);
    }

    /** "all of section 2 is as ahead of it", for each of the five. */
    private static void undoneOfEachKind() {
        SiegePlate x = Check.townOf(Twins.TOWN);
        x.seed(seedFor(50, 0));
        String[] before = new String[6];
        for (int i = 0; i < 6; i++) {
            before[i] = Check.besieged(x);
            switch (i) {
                case 0 -> x.day(1, 3);
                case 1 -> x.gun();
                case 2 -> x.sally(1, 3);
                case 3 -> x.drift(2, 1);
                case 4 -> x.day(0, 2);
                default -> x.relief(true);
            }
        }
        for (int i = 5; i >= 0; i--) {
            CHECK.due("undo", x.undo(), i);
            CHECK.same("as ahead of call " + i, Check.besieged(x), before[i]);
        }
        CHECK.due("no more", x.undo(), Check.NOT);
        CHECK.same("as it was", Check.besieged(x), before[0]);
    }

    /** The same with as many companies and kinds of money as there can be, each paid by each and in words. */
    private static void undoneOfAllThereCanBe() {
        SiegePlate x = Check.townOf("t40 0;" + "c1 1 9;".repeat(5) + "m5 1 2;m5 3 4;m5 5 6;m5 7 8;" + "g9;".repeat(6));
        String[] before = new String[8];
        for (int day = 0; day < 8; day++) {
            before[day] = Check.besieged(x);
            x.day(day % 3, 1);
        }
        CHECK.due("four days in words", x.company(4, 4), 4);
        for (int day = 7; day >= 0; day--) {
            x.undo();
            CHECK.same("as ahead of day " + day, Check.besieged(x), before[day]);
        }
    }

    /** "(20 at most are kept, the oldest are lost)"; "how many more can be. NOT: none." */
    private static void twentyCanBeUndone() {
        for (int calls = 0; calls <= 22; calls++) {
            SiegePlate x = Check.townOf("t0 0;c99 0 9;");
            for (int i = 0; i < calls; i++) {
                x.sally(0, 1);
            }
            int kept = Math.min(20, calls);
            CHECK.due("kept of " + calls, x.told(13), kept);
            for (int i = 1; i <= kept; i++) {
                CHECK.due("undo " + i + " of " + calls, x.undo(), kept - i);
                CHECK.due("men", x.told(9), 99 - calls + i);
            }
            CHECK.due("no more of " + calls, x.undo(), Check.NOT);
            CHECK.due("men at last", x.told(9), 99 - calls + kept);
        }
    }

    /** The same by turns: what is kept goes round and round. */
    private static void theOldestAreLostAgainAndAgain() {
        SiegePlate x = Check.townOf("t0 0;c99 0 9;");
        for (int i = 0; i < 50; i++) {
            x.sally(0, 1);
        }
        for (int i = 0; i < 7; i++) {
            x.undo();
        }
        CHECK.due("men behind 50 less 7", x.told(9), 56);
        CHECK.due("13 are kept", x.told(13), 13);
        for (int i = 0; i < 9; i++) {
            x.sally(0, 2);
        }
        CHECK.due("20 are kept", x.told(13), 20);
        CHECK.due("men", x.told(9), 38);
        for (int i = 0; i < 9; i++) {
            x.undo();
        }
        CHECK.due("men again", x.told(9), 56);
        for (int i = 0; i < 11; i++) {
            x.undo();
        }
        CHECK.due("men of the oldest", x.told(9), 67);
        CHECK.due("it was the last", x.undo(), Check.NOT);
    }

    /** "that was not refused" */
    private static void refusedOnesAreNotUndone() {
        SiegePlate x = Check.townOf(Twins.TOWN);
        x.gun();
        x.day(4, 1);
        x.drift(0, 31);
        x.sally(0, 11);
        x.sally(9, 1);
        CHECK.due("one is kept", x.told(13), 1);
        x.relief(true);
        x.relief(true);
        x.gun();
        x.day(0, 1);
        x.drift(0, 1);
        x.sally(0, 1);
        CHECK.due("two are kept", x.told(13), 2);
        CHECK.due("undo relief", x.undo(), 1);
        CHECK.due("besieged", x.told(10), 0);
        CHECK.due("undo gun", x.undo(), 0);
        CHECK.due("R", x.told(1), 5);
    }

    /** Only section 2 is undone: the text, what is shown, the book, images and the seed stay. */
    private static void undoLeavesAllElse() {
        SiegePlate x = Check.townOf(Twins.TOWN);
        x.keep(1);
        x.gun();
        x.feed('t');
        x.show(0, 1, 2, 8);
        x.write(0, 9);
        x.seed(5);
        CHECK.due("undo", x.undo(), 0);
        CHECK.due("R", x.told(1), 5);
        CHECK.due("the text", x.told(6), 1);
        CHECK.due("shown", x.told(11), 1);
        CHECK.due("forged", x.forged(), 1);
        CHECK.due("the book", x.told(12), 1);
        CHECK.due("wrong", x.judge(), 0);
        CHECK.due("the seed", Check.seedOf(x), 5);
        CHECK.due("the image", x.goBack(1), 1);
    }
}
