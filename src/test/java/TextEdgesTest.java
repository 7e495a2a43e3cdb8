/** The edges of section 1 (THE TOWN) and of promises 1 to 4: a new object, feed, town, fault. */
public final class TextEdgesTest {
    private static final Check CHECK = new Check();
    private static final String FULLEST = "t999 99;" + "c99 9 9;".repeat(5) + "m999 99 99;".repeat(4) + "g99;".repeat(6)
        + "h99 99;".repeat(4);

    public static void main(String[] args) {
        aNewObject();
        lettersAreNumbersFrom0To255();
        theTextHas240LettersAtMost();
        theLastOf240LettersCounts();
        boundsOfStores();
        boundsOfCompanies();
        boundsOfMoney();
        boundsOfGoods();
        boundsOfHorses();
        asManyClausesAsThereMayBe();
        oneClauseMore();
        storesComeFirst();
        numbersAreGivenAsTheyCome();
        figuresOfNumbers();
        blanksMayStandAnywhere();
        blanksPartNumbers();
        lettersWhereAWordIsFirst();
        lettersWhereAWordMayCome();
        lettersWhereANumberMustCome();
        lettersBehindANumberOfMore();
        lettersWhereTheEndMustCome();
        theEndIsAtTheTextsLength();
        wrongNumbersAreAtTheirFirstFigure();
        theFirstLetterWithAFault();
        theLeastOfFaultsAtOneLetter();
        noTextNoTown();
        theTextIsEmptyThen();
        aFaultLeavesAllElse();
        aTownBeginsAnew();
        nothingPaidByAllToAll();
        townsInARow();
        theSeedStays();
        faultOfTheLatestTown();
        the512thCallAnswers();
        CHECK.end();
    }

    private static void reads(String text, int answer, int place) {
        SiegePlate x = new SiegePlate();
        CHECK.due("town() of '" + text + "'", Check.becomes(x, text), answer);
        CHECK.due("fault() of '" + text + "'", x.fault(), place);
    }

    /** "No TOWN." */
    private static void aNewObject() {
        SiegePlate x = new SiegePlate();
        for (int what = 0; what <= 14; what++) {
            CHECK.due("told(" + what + ") of a new object", x.told(what), 0);
        }
        CHECK.due("fault() of a new object", x.fault(), Check.NONE);
        CHECK.due("forged() of a new object", x.forged(), 0);
        CHECK.due("weighFirst() of a new object", x.weighFirst(), Check.NONE);
        CHECK.due("judge() of a new object", x.judge(), Check.NONE);
        CHECK.due("tear() of a new object", x.tear(), 0);
        CHECK.due("undo() of a new object", x.undo(), Check.NOT);
        CHECK.due("goBack(0) of a new object", x.goBack(0), Check.NOT);
        CHECK.due("goBack(1) of a new object", x.goBack(1), Check.NOT);
        CHECK.due("seed(1) of a new object", x.seed(1), 0);
    }

    /** "One letter (a number 0 .. 255) comes behind THE TEXT: how many it has. OUTSIDE" */
    private static void lettersAreNumbersFrom0To255() {
        SiegePlate x = new SiegePlate();
        CHECK.due("feed(-1)", x.feed(-1), Check.OUTSIDE);
        CHECK.due("feed(256)", x.feed(256), Check.OUTSIDE);
        CHECK.due("told(6)", x.told(6), 0);
        CHECK.due("feed(0)", x.feed(0), 1);
        CHECK.due("feed(255)", x.feed(255), 2);
        CHECK.due("feed(1)", x.feed(1), 3);
        CHECK.due("feed(254)", x.feed(254), 4);
        CHECK.due("told(6)", x.told(6), 4);
        // a letter is not cut to seven bits or to its sign: 244 is 't' and 128
        reads("" + (char) ('t' + 128) + "0 0;", -11, 0);
        reads("t0" + (char) (' ' + 128) + "0;", -11, 2);
    }

    /** "told in a text (240 letters at most)"; "FULL (240)" */
    private static void theTextHas240LettersAtMost() {
        SiegePlate x = new SiegePlate();
        Check.feedAll(x, "t1 2;c3 4 5;" + " ".repeat(227));
        CHECK.due("239 letters", x.told(6), 239);
        CHECK.due("the 240th", x.feed(' '), 240);
        CHECK.due("the 241st", x.feed('x'), Check.FULL);
        CHECK.due("the 241st again", x.feed(' '), Check.FULL);
        CHECK.due("240 letters", x.told(6), 240);
        CHECK.due("the town of 240 letters", x.town(), 1);
        CHECK.due("fault()", x.fault(), Check.NONE);
        CHECK.due("then it is empty", x.told(6), 0);
        CHECK.due("a letter may come again", x.feed('t'), 1);
    }

    /** The same, seen from the last letter's place. */
    private static void theLastOf240LettersCounts() {
        reads("t1 2;" + " ".repeat(234) + "x", -11, 239);
        reads("t1 2;" + " ".repeat(234) + "t", -13, 239);
        reads("t1 2;" + " ".repeat(234) + "c", -11, 240);
        reads("t1 2;" + " ".repeat(228) + "c1 1 1;", 1, Check.NONE);
        reads("t1 2;" + " ".repeat(229) + "c1 1 1", -11, 240);
        reads("t1 2;c1 1 " + " ".repeat(229) + "9", -11, 240);
        reads("t1 2;c1 1 " + " ".repeat(228) + "10", -12, 238);
        reads(" ".repeat(240), 0, Check.NONE);
        reads("9".repeat(240), -11, 0);
        reads("t" + "9".repeat(239), -12, 1);
    }

    /** "'t' F R ';' (FOOD F, 0 .. 999; RELIEF comes by R of a hundred a day, 0 .. 99" */
    private static void boundsOfStores() {
        SiegePlate least = Check.townOf("t0 0;");
        CHECK.due("FOOD 0", least.told(0), 0);
        CHECK.due("R 0", least.told(1), 0);
        SiegePlate most = Check.townOf("t999 99;");
        CHECK.due("FOOD 999", most.told(0), 999);
        CHECK.due("R 99", most.told(1), 99);
        reads("t1000 0;", -12, 1);
        reads("t999 100;", -12, 5);
        reads("t999 999;", -12, 5);
    }

    /** "'c' N P B ';' (N men, 0 .. 99; PAY P, 0 .. 9; they BEAR so many hungry days, 0 .. 9)" */
    private static void boundsOfCompanies() {
        SiegePlate x = Check.townOf("t0 0;c0 0 0;c99 9 9;");
        for (int what = 0; what < 3; what++) {
            CHECK.due("the least " + what, x.company(0, what), 0);
            CHECK.due("the most " + what, x.company(1, what), what == 0 ? 99 : 9);
        }
        reads("t0 0;c100 0 0;", -12, 6);
        reads("t0 0;c999 0 0;", -12, 6);
        reads("t0 0;c99 10 0;", -12, 9);
        reads("t0 0;c99 99 0;", -12, 9);
        reads("t0 0;c99 9 10;", -12, 11);
        reads("t0 0;c99 9 99;", -12, 11);
    }

    /** "'m' S V W ';' (S SQUARES, 0 .. 999, each stamped V, 1 .. 99, weighs W, 0 .. 99)" */
    private static void boundsOfMoney() {
        SiegePlate x = Check.townOf("t0 0;m0 1 0;m999 99 99;");
        int[] least = {0, 1, 0};
        int[] most = {999, 99, 99};
        for (int what = 0; what < 3; what++) {
            CHECK.due("the least " + what, x.money(0, what), least[what]);
            CHECK.due("the most " + what, x.money(1, what), most[what]);
        }
        reads("t0 0;m1000 1 0;", -12, 6);
        reads("t0 0;m0 0 0;", -12, 8);
        reads("t0 0;m0 000 0;", -12, 8);
        reads("t0 0;m0 100 0;", -12, 8);
        reads("t0 0;m0 1 100;", -12, 10);
    }

    /** "'g' C ';' (cost C at first, 1 .. 99)" */
    private static void boundsOfGoods() {
        SiegePlate x = Check.townOf("t0 0;g1;g99;");
        CHECK.due("the least", x.costs(0), 1);
        CHECK.due("the most", x.costs(1), 99);
        reads("t0 0;g0;", -12, 6);
        reads("t0 0;g00;", -12, 6);
        reads("t0 0;g100;", -12, 6);
    }

    /** "'h' A B ';' (on day A, 0 .. 99, FOOD becomes B more, 1 .. 99)" */
    private static void boundsOfHorses() {
        SiegePlate first = Check.townOf("t0 0;c1 0 9;h0 1;");
        first.day(0, 1);
        CHECK.due("1 on day 0", first.told(0), 1);
        SiegePlate last = Check.townOf("t198 0;c1 0 9;h99 99;");
        for (int i = 0; i < 3; i++) {
            last.day(2, 30);
        }
        last.day(2, 9);
        CHECK.due("day 99 is to come", last.told(7), 99);
        CHECK.due("none on day 98", last.told(0), 0);
        last.day(2, 1);
        CHECK.due("99 on day 99", last.told(0), 97);
        last.day(2, 1);
        CHECK.due("none on day 100", last.told(0), 95);
        reads("t0 0;h100 1;", -12, 6);
        reads("t0 0;h99 0;", -12, 9);
        reads("t0 0;h99 100;", -12, 9);
    }

    /** "5 COMPANIES at most", "4 kinds of MONEY at most", "6 GOODS at most", "4 HORSES at most" */
    private static void asManyClausesAsThereMayBe() {
        SiegePlate x = Check.townOf(FULLEST);
        int[] due = {999, 99, 5, 4, 6, 4, 0, 0, 0, 495};
        for (int what = 0; what < due.length; what++) {
            CHECK.due("told(" + what + ")", x.told(what), due[what]);
        }
        CHECK.due("the fifth company", x.company(4, 0), 99);
        CHECK.due("the fourth money", x.money(3, 0), 999);
        CHECK.due("the sixth good", x.costs(5), 99);
        reads("t0 0;" + "c0 0 0;".repeat(5), 5, Check.NONE);
        reads("t0 0;" + "m0 1 0;".repeat(4), 0, Check.NONE);
        reads("t0 0;" + "g1;".repeat(6), 0, Check.NONE);
        reads("t0 0;" + "h0 1;".repeat(4), 0, Check.NONE);
    }

    /** "3 't' again, a sixth 'c', a fifth 'm', 'h', a seventh 'g' (at it)" */
    private static void oneClauseMore() {
        reads("t0 0;t", -13, 5);
        reads("t0 0;t0 0;", -13, 5);
        reads("t0 0;" + "c0 0 0;".repeat(5) + "c", -13, 40);
        reads("t0 0;" + "c0 0 0;".repeat(5) + " c0 0 0;", -13, 41);
        reads("t0 0;" + "m0 1 0;".repeat(4) + "m", -13, 33);
        reads("t0 0;" + "h0 1;".repeat(4) + "h", -13, 25);
        reads("t0 0;" + "g1;".repeat(6) + "g", -13, 23);
        // each is counted by itself, and others between them are of no matter
        reads("t0 0;" + "c0 0 0;m0 1 0;g1;h0 1;".repeat(4) + "g1;g1;c0 0 0;t", -13, 106);
        reads(FULLEST + "t", -13, FULLEST.length());
        reads(FULLEST + "c", -13, FULLEST.length());
        reads(FULLEST + "m", -13, FULLEST.length());
        reads(FULLEST + "g", -13, FULLEST.length());
        reads(FULLEST + "h", -13, FULLEST.length());
    }

    /** "first, once"; "another word first than 't'" */
    private static void storesComeFirst() {
        for (char word : "cmgh".toCharArray()) {
            reads("" + word, -11, 0);
            reads("  " + word + "1 1 1;t0 0;", -11, 2);
        }
        // of the clauses behind it any may come in any order
        reads("t0 0;h0 1;g1;m0 1 0;c0 0 0;h0 1;g1;m0 1 0;c0 0 0;", 2, Check.NONE);
    }

    /** "What has a number has it from 0 on, as it comes." */
    private static void numbersAreGivenAsTheyCome() {
        SiegePlate x = Check.townOf("t0 0;g7;c1 2 3;m4 5 6;c7 8 9;g9;m1 2 3;");
        CHECK.due("company 0", x.company(0, 0), 1);
        CHECK.due("company 1", x.company(1, 0), 7);
        CHECK.due("money 0", x.money(0, 0), 4);
        CHECK.due("money 1", x.money(1, 0), 1);
        CHECK.due("good 0", x.costs(0), 7);
        CHECK.due("good 1", x.costs(1), 9);
    }

    /** "NUMBERS have one to three figures"; "2 a NUMBER of four figures or more" */
    private static void figuresOfNumbers() {
        SiegePlate x = Check.townOf("t007 09;c1 1 001;");
        CHECK.due("007", x.told(0), 7);
        CHECK.due("09", x.told(1), 9);
        CHECK.due("001", x.company(0, 2), 1);
        reads("t000 000;", 0, Check.NONE);
        reads("t0000 0;", -12, 1);
        reads("t0001 0;", -12, 1);
        reads("t0 0005;", -12, 3);
        reads("t0 00000000000000000000000000000001;", -12, 3);
        // 4294967296 and 4294967297 are 0 and 1 once they wrap around
        reads("t4294967296 0;", -12, 1);
        reads("t0 0;g4294967297;", -12, 6);
        // no figure at all
        reads("t ;", -11, 2);
        reads("t0 ;", -11, 3);
    }

    /** "blanks (32) may stand anywhere but within NUMBERS" */
    private static void blanksMayStandAnywhere() {
        SiegePlate x = Check.townOf("   t   12   34   ;   c   5   6   7   ;   m 8 9 1 ; g 2 ; h 3 4 ;   ");
        CHECK.due("FOOD", x.told(0), 12);
        CHECK.due("R", x.told(1), 34);
        CHECK.due("men", x.company(0, 0), 5);
        CHECK.due("SQUARES", x.money(0, 0), 8);
        CHECK.due("cost", x.costs(0), 2);
        CHECK.due("HORSES", x.told(5), 1);
        reads("t 1 2;", 0, Check.NONE);
        reads("t1 2 ;", 0, Check.NONE);
        reads(" t1 2;", 0, Check.NONE);
        reads("t1 2; ", 0, Check.NONE);
    }

    /** "but within NUMBERS; two NUMBERS side by side need one" */
    private static void blanksPartNumbers() {
        reads("t1 2 3;", -11, 5);
        reads("t12;", -11, 3);
        reads("t12  ;", -11, 5);
        reads("t0 0;m111;", -11, 9);
        reads("t0 0;m1 11;", -11, 10);
        reads("t0 0;c111;", -12, 6);
        reads("t0 0;g1 1;", -11, 8);
        SiegePlate x = Check.townOf("t12 3;");
        CHECK.due("12", x.told(0), 12);
        CHECK.due("3", x.told(1), 3);
    }

    /** "1 it cannot stand there (a letter that is no word, another word first than 't')": every letter first. */
    private static void lettersWhereAWordIsFirst() {
        for (int letter = 0; letter < 256; letter++) {
            if (letter == ' ') {
                reads("" + (char) letter, 0, Check.NONE);
            } else {
                reads("" + (char) letter, -11, letter == 't' ? 1 : 0);
            }
        }
    }

    /** Every letter where a clause has ended. */
    private static void lettersWhereAWordMayCome() {
        for (int letter = 0; letter < 256; letter++) {
            String text = "t1 2;" + (char) letter;
            if (letter == ' ') {
                reads(text, 0, Check.NONE);
            } else if (letter == 't') {
                reads(text, -13, 5);
            } else {
                reads(text, -11, "cmgh".indexOf(letter) >= 0 ? 6 : 5);
            }
        }
    }

    private static boolean isFigure(int letter) {
        return letter >= 48 && letter <= 57;
    }

    /** Every letter behind a word. */
    private static void lettersWhereANumberMustCome() {
        for (int letter = 0; letter < 256; letter++) {
            String text = "t1 2;g" + (char) letter + "1;";
            if (letter == ' ' || isFigure(letter)) {
                reads(text, 0, Check.NONE);
            } else {
                reads(text, -11, 6);
            }
        }
    }

    /** Every letter behind a number that others must follow. */
    private static void lettersBehindANumberOfMore() {
        for (int letter = 0; letter < 256; letter++) {
            String text = "t1" + (char) letter + "2 3;";
            if (letter == ' ') {
                reads(text, -11, 5);
            } else if (isFigure(letter)) {
                reads(text, 0, Check.NONE);
            } else {
                reads(text, -11, 2);
            }
        }
    }

    /** Every letter behind the last number of a clause. */
    private static void lettersWhereTheEndMustCome() {
        for (int letter = 0; letter < 256; letter++) {
            String text = "t1 2" + (char) letter;
            if (letter == ';') {
                reads(text, 0, Check.NONE);
            } else {
                reads(text, -11, letter == ' ' || isFigure(letter) ? 5 : 4);
            }
        }
    }

    /** "(the end at the text's length)" */
    private static void theEndIsAtTheTextsLength() {
        reads("t", -11, 1);
        reads("t   ", -11, 4);
        reads("t1", -11, 2);
        reads("t1 ", -11, 3);
        reads("t1 2", -11, 4);
        reads("t1 2   ", -11, 7);
        reads("t1 2;c1 2 3", -11, 11);
        reads("t1 2;c1 2", -11, 9);
        reads("t1 2;g", -11, 6);
    }

    /** "2 a NUMBER of four figures or more, or out of its bounds (at its first)" */
    private static void wrongNumbersAreAtTheirFirstFigure() {
        reads("t   1000 1;", -12, 4);
        reads("t1   100;", -12, 5);
        reads("t1 2;c1 1   10;", -12, 12);
        // also where the text ends, or what cannot stand comes, behind its last figure
        reads("t1000", -12, 1);
        reads("t1 100", -12, 3);
        reads("t1000x", -12, 1);
        reads("t1 100x", -12, 3);
        reads("t1 100t", -12, 3);
    }

    /** "FAULTS, at the first letter that has one": also where a later one has a lesser number. */
    private static void theFirstLetterWithAFault() {
        reads("t1 100;x", -12, 3);
        reads("t1 2;t1 100;x", -13, 5);
        reads("t1 2;g0;t", -12, 6);
        reads("t1 2;x;g0;t", -11, 5);
        reads("t1000 100;", -12, 1);
        reads("t1 2;" + "g1;".repeat(6) + "g0 x", -13, 23);
        reads("x t1000", -11, 0);
    }

    /** "of these the least": a letter that cannot stand there is 1, whatever else it is. */
    private static void theLeastOfFaultsAtOneLetter() {
        reads("1000", -11, 0);
        reads("t1 2 1000;", -11, 5);
        reads("t1 2;1000", -11, 5);
        reads("t1 2;g1 1000;", -11, 8);
        reads("t1 t", -11, 3);
        reads("t1 2t", -11, 4);
        reads("t1 2;" + "c0 0 0;".repeat(5) + "g1c", -11, 42);
        reads("t1 2;" + "g1;".repeat(6) + "hg", -11, 24);
    }

    /** "An empty text (or one of blanks alone) has no FAULT: no TOWN." */
    private static void noTextNoTown() {
        for (String text : new String[] {"", " ", "     "}) {
            SiegePlate x = Check.townOf(Twins.TOWN);
            x.day(1, 2);
            x.keep(1);
            x.gun();
            x.show(0, 1, 1, 1);
            x.write(0, 1);
            x.seed(6);
            CHECK.due("town() of " + text.length() + " blanks", Check.becomes(x, text), 0);
            CHECK.due("fault()", x.fault(), Check.NONE);
            for (int what = 0; what <= 14; what++) {
                CHECK.due("told(" + what + ") of no town", x.told(what), 0);
            }
            CHECK.due("no company", x.company(0, 0), Check.UNKNOWN);
            CHECK.due("no money", x.money(0, 0), Check.UNKNOWN);
            CHECK.due("no good", x.costs(0), Check.UNKNOWN);
            CHECK.due("no day", x.day(0, 1), Check.NOT);
            CHECK.due("no image", x.goBack(1), Check.NOT);
            CHECK.due("the seed", x.seed(0), 6);
            CHECK.due("a town again", Check.becomes(x, Twins.TOWN), 3);
        }
    }

    /** "THE TEXT (it is empty then, with a FAULT, too)" */
    private static void theTextIsEmptyThen() {
        SiegePlate x = new SiegePlate();
        CHECK.due("a fault", Check.becomes(x, "t1 2;x"), -11);
        CHECK.due("is empty", x.told(6), 0);
        CHECK.due("the next first letter", x.feed('t'), 1);
        CHECK.due("the next letters", Check.becomes(x, "3 4;"), 0);
        CHECK.due("are a text of their own", x.told(0), 3);
        CHECK.due("is empty", x.told(6), 0);
        CHECK.due("town() of nothing", x.town(), 0);
        CHECK.due("is no town", x.told(14), 0);
    }

    /** "-10 less the number of its FAULT (all else is as it was)" */
    private static void aFaultLeavesAllElse() {
        String[] faults = {"x", "t1000 0;", "t1 2;c9 9 9;m9 9 9;g9;h9 9;t", "t1 2;c9 9 9;c", "t0 0;c0 0 0;m0 1 0;g1;h0 100;"};
        int[] answers = {-11, -12, -13, -11, -12};
        int[] places = {0, 1, 27, 13, 25};
        for (int i = 0; i < faults.length; i++) {
            SiegePlate x = Twins.make(TextEdgesTest::goOnInASecondTown);
            SiegePlate twin = Twins.make(TextEdgesTest::goOnInASecondTown);
            CHECK.due("town() of '" + faults[i] + "'", Check.becomes(x, faults[i]), answers[i]);
            CHECK.due("its place", x.fault(), places[i]);
            Check.feedAll(x, Twins.HALF_A_TEXT);
            Check.feedAll(twin, Twins.HALF_A_TEXT);
            CHECK.same("later calls behind '" + faults[i] + "'", Twins.later(x), Twins.later(twin));
        }
    }

    private static void goOnInASecondTown(SiegePlate x) {
        Check.becomes(x, "t500 50;c50 5 5;c40 4 4;m500 50 50;g50;h1 50;");
        Check.becomes(x, Twins.TOWN);
        x.day(2, 1);
        x.keep(1);
        x.day(1, 1);
        x.sally(0, 2);
        x.show(0, 3, 5, 8);
        x.write(0, 8);
        x.seed(77);
    }

    /** "(DAY 0, HUNGER 0, nothing paid; no SQUARES shown, no BOOK; IMAGES, what could be undone are gone" */
    private static void aTownBeginsAnew() {
        for (boolean is : new boolean[] {true, false}) {
            SiegePlate x = Check.townOf("t99 5;c10 2 1;c20 1 0;m12 7 3;g10;h0 9;");
            x.keep(0);
            x.keep(1);
            x.day(0, 3);
            x.gun();
            x.show(0, 1, 2, 3);
            x.write(0, 1);
            x.relief(is);
            CHECK.due("words", x.company(1, 4) > 0 ? 1 : 0, 1);
            CHECK.due("town()", Check.becomes(x, "t50 7;c4 3 2;m9 8 7;g20;"), 1);
            int[] due = {50, 7, 1, 1, 1, 0, 0, 0, 0, 4, 0, 0, 0, 0, 1};
            for (int what = 0; what < due.length; what++) {
                CHECK.due("told(" + what + ") anew", x.told(what), due[what]);
            }
            CHECK.due("no hungry days", x.company(0, 3), 0);
            CHECK.due("no words", x.company(0, 4), 0);
            CHECK.due("all squares", x.money(0, 0), 9);
            for (int reading = 0; reading < 3; reading++) {
                CHECK.due("nothing is owed", x.owed(0, reading), 0);
            }
            CHECK.due("no second company", x.company(1, 0), Check.UNKNOWN);
            CHECK.due("no hunger", x.costs(0), 20);
            CHECK.due("none forged", x.forged(), 0);
            CHECK.due("none to weigh", x.weighFirst(), Check.NONE);
            CHECK.due("none wrong", x.judge(), Check.NONE);
            CHECK.due("no undoing", x.undo(), Check.NOT);
            CHECK.due("no image 0", x.goBack(0), Check.NOT);
            CHECK.due("no image 1", x.goBack(1), Check.NOT);
            x.day(0, 1);
            CHECK.due("no horse of the old town", x.told(0), 50);
        }
    }

    /** "nothing paid": neither to any company nor of any kind, nor in words. */
    private static void nothingPaidByAllToAll() {
        String text = "t0 0;" + "c1 1 9;".repeat(5) + "m5 1 1;".repeat(4);
        SiegePlate x = Check.townOf(text);
        x.day(0, 5);
        for (int c = 0; c < 5; c++) {
            CHECK.due("one of each kind, and one in words", x.owed(c, 2), 5);
        }
        CHECK.due("town()", Check.becomes(x, text), 5);
        for (int c = 0; c < 5; c++) {
            for (int reading = 0; reading < 3; reading++) {
                CHECK.due("nothing", x.owed(c, reading), 0);
            }
            CHECK.due("no words", x.company(c, 4), 0);
        }
        for (int m = 0; m < 4; m++) {
            CHECK.due("all squares", x.money(m, 0), 5);
        }
        CHECK.due("least", x.least(0, 0), 0);
    }

    /** The same from town to town: nothing of an earlier one is left, nor of a text that had a fault. */
    private static void townsInARow() {
        String great = "t9 9;" + "c9 9 9;".repeat(5) + "m9 9 9;".repeat(4) + "g9;".repeat(6) + "h0 9;".repeat(4);
        String[][] rows = {{great}, {great, great}, {great + "x"}, {great, great + "x"}, {great + "x", great}};
        for (String last : new String[] {"", " ", "t1 2;", "t1 2;c3 1 9;m4 5 6;g7;"}) {
            for (String[] row : rows) {
                SiegePlate x = new SiegePlate();
                for (String text : row) {
                    Check.becomes(x, text);
                }
                SiegePlate fresh = new SiegePlate();
                CHECK.due("town() of '" + last + "'", Check.becomes(x, last), Check.becomes(fresh, last));
                CHECK.due("men", x.day(0, 2), fresh.day(0, 2));
                CHECK.same("'" + last + "' behind " + row.length + " greater ones", Twins.later(x), Twins.later(fresh));
            }
        }
    }

    /** "THE SEED stays" */
    private static void theSeedStays() {
        SiegePlate x = new SiegePlate();
        x.seed(Integer.MAX_VALUE);
        Check.becomes(x, "t50 7;c4 3 2;");
        CHECK.due("behind a town", x.seed(41), Integer.MAX_VALUE);
        Check.becomes(x, "t50 7;c4 3 2;x");
        CHECK.due("behind a fault", x.seed(42), 41);
        Check.becomes(x, "");
        CHECK.due("behind no town", x.seed(43), 42);
    }

    /** "The place (from 0 on) of the letter that has the FAULT of the latest town(); NONE." */
    private static void faultOfTheLatestTown() {
        SiegePlate x = new SiegePlate();
        Check.feedAll(x, "x");
        CHECK.due("ahead of town()", x.fault(), Check.NONE);
        x.town();
        CHECK.due("the first letter", x.fault(), 0);
        Check.feedAll(x, "t1 2;?");
        CHECK.due("of the latest town() still", x.fault(), 0);
        x.town();
        CHECK.due("the sixth letter", x.fault(), 5);
        CHECK.due("asked again", x.fault(), 5);
        Check.becomes(x, "t1 2;");
        CHECK.due("of a town without fault", x.fault(), Check.NONE);
        Check.becomes(x, "t1 2");
        CHECK.due("at the end", x.fault(), 4);
        x.gun();
        x.seed(4);
        x.keep(0);
        CHECK.due("other calls are of no matter", x.fault(), 4);
        Check.becomes(x, "   ");
        CHECK.due("of blanks", x.fault(), Check.NONE);
        Check.becomes(x, "t1 2");
        x.town();
        CHECK.due("of nothing", x.fault(), Check.NONE);
    }

    /** "An object is used for at most 512 calls after it has been made" */
    private static void the512thCallAnswers() {
        SiegePlate x = new SiegePlate();
        Check.becomes(x, "t999 0;c99 1 9;m999 1 1;");
        int calls = "t999 0;c99 1 9;m999 1 1;".length() + 1;
        for (; calls < 510; calls++) {
            CHECK.due("call " + calls, x.gun(), Math.min(99, 5 * (calls - 24)));
        }
        CHECK.due("the 511th call", x.sally(0, 99), 99);
        CHECK.due("the 512th call", x.undo(), 19);
    }
}
