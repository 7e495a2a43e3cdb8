/** The edges of promises 29 to 31: seed, keep, goBack. */
public final class ImagesEdgesTest {
    private static final Check CHECK = new Check();
    private static final String TOWN = Twins.TOWN;

    public static void main(String[] args) {
        seedsFromLeastToMost();
        theSeedOfDraws();
        twoImages();
        notKept();
        allOfSection2AndTheSeed();
        allThereCanBe();
        nothingCanBeUndoneThen();
        keptAgain();
        goneBackAgain();
        imagesOfWhatIsOver();
        imagesAreGoneWithTheTown();
        imagesWithoutATown();
        allElseStays();
        CHECK.end();
    }

    /** "THE SEED becomes v (0 .. 2147483647): what it was. OUTSIDE."; "0 at first" */
    private static void seedsFromLeastToMost() {
        SiegePlate x = new SiegePlate();
        CHECK.due("0 at first", x.seed(0), 0);
        CHECK.due("the least", x.seed(2147483647), 0);
        CHECK.due("the most", x.seed(1), 2147483647);
        CHECK.due("-1", x.seed(-1), Check.OUTSIDE);
        CHECK.due("far below", x.seed(Integer.MIN_VALUE), Check.OUTSIDE);
        CHECK.due("as it was", x.seed(2), 1);
        CHECK.due("nothing to undo by it", x.told(13), 0);
    }

    /** Only draws change it. */
    private static void theSeedOfDraws() {
        SiegePlate x = Check.townOf("t99 0;c9 1 9;");
        x.seed(2147483647);
        x.day(2, 1);
        x.gun();
        x.sally(0, 1);
        x.undo();
        x.rations(3, 0);
        CHECK.due("by none of these", Check.seedOf(x), 2147483647);
        x.undo();
        x.drift(2, 1);
        // (2147483647 x 1103515245 + 12345) left over by 2 to the 31 is 1043980748, and of that 288979989
        CHECK.due("by two draws", Check.seedOf(x), 288979989);
    }

    /** "IMAGES 0, 1"; "UNKNOWN" */
    private static void twoImages() {
        SiegePlate x = Check.townOf(TOWN);
        CHECK.due("keep(-1)", x.keep(-1), Check.UNKNOWN);
        CHECK.due("keep(2)", x.keep(2), Check.UNKNOWN);
        CHECK.due("keep(0)", x.keep(0), 1);
        x.gun();
        CHECK.due("keep(1)", x.keep(1), 1);
        CHECK.due("goBack(-1)", x.goBack(-1), Check.UNKNOWN);
        CHECK.due("goBack(2)", x.goBack(2), Check.UNKNOWN);
        CHECK.due("goBack(0)", x.goBack(0), 1);
        CHECK.due("R of image 0", x.told(1), 5);
        CHECK.due("goBack(1)", x.goBack(1), 1);
        CHECK.due("R of image 1", x.told(1), 10);
    }

    /** "NOT: it was not kept." */
    private static void notKept() {
        SiegePlate x = Check.townOf(TOWN);
        CHECK.due("goBack(0)", x.goBack(0), Check.NOT);
        CHECK.due("goBack(1)", x.goBack(1), Check.NOT);
        x.keep(1);
        CHECK.due("the other is not", x.goBack(0), Check.NOT);
        CHECK.due("the one is", x.goBack(1), 1);
        x.keep(2);
        CHECK.due("what is refused keeps nothing", x.goBack(0), Check.NOT);
    }

    /** "IMAGES 0, 1 keep all of section 2, THE SEED." */
    private static void allOfSection2AndTheSeed() {
        for (int image = 0; image < 2; image++) {
            SiegePlate x = Check.townOf(TOWN);
            x.day(2, 2);
            x.day(1, 1);
            x.sally(0, 3);
            x.gun();
            x.seed(2147483647);
            x.keep(image);
            String kept = Check.besieged(x);
            int menLeft = x.rations(2, Check.NONE);
            x.day(0, 4);
            x.sally(2, 1);
            x.gun();
            x.seed(3);
            x.drift(1, 3);
            x.goBack(image);
            CHECK.same("image " + image, Check.besieged(x), kept);
            CHECK.due("its seed", Check.seedOf(x), 2147483647);
            CHECK.due("its trials", x.rations(2, Check.NONE), menLeft);
        }
    }

    /** The same with as many companies and kinds of money as there can be, each paid by each and in words. */
    private static void allThereCanBe() {
        SiegePlate x = Check.townOf("t40 0;" + "c1 1 9;".repeat(5) + "m5 1 2;m5 3 4;m5 5 6;m5 7 8;");
        x.keep(0);
        String first = Check.besieged(x);
        x.day(0, 6);
        x.keep(1);
        String second = Check.besieged(x);
        x.day(1, 2);
        x.goBack(0);
        CHECK.same("image 0", Check.besieged(x), first);
        x.goBack(1);
        CHECK.same("image 1", Check.besieged(x), second);
    }

    /** "(nothing can be undone then)": behind keep() and behind goBack(). */
    private static void nothingCanBeUndoneThen() {
        SiegePlate x = Check.townOf(TOWN);
        for (int i = 0; i < 20; i++) {
            x.gun();
        }
        x.keep(0);
        CHECK.due("none behind keep", x.told(13), 0);
        CHECK.due("undo behind keep", x.undo(), Check.NOT);
        CHECK.due("R is as kept", x.told(1), 99);
        x.sally(0, 1);
        x.sally(0, 1);
        CHECK.due("two", x.told(13), 2);
        x.goBack(0);
        CHECK.due("none behind goBack", x.told(13), 0);
        CHECK.due("undo behind goBack", x.undo(), Check.NOT);
        CHECK.due("men are as kept", x.company(0, 0), 10);
        x.gun();
        CHECK.due("one again", x.told(13), 1);
        x.goBack(1);
        x.keep(2);
        CHECK.due("a refused one leaves it", x.told(13), 1);
        CHECK.due("undo", x.undo(), 0);
    }

    /** "IMAGE i becomes what is so": the former one is no more, the other stays. */
    private static void keptAgain() {
        SiegePlate x = Check.townOf(TOWN);
        x.keep(0);
        x.keep(1);
        x.sally(0, 4);
        x.keep(0);
        x.sally(0, 4);
        x.goBack(0);
        CHECK.due("the latter", x.company(0, 0), 6);
        x.goBack(1);
        CHECK.due("the other", x.company(0, 0), 10);
    }

    /** "What is so becomes IMAGE i": as often as asked, whatever was done since. */
    private static void goneBackAgain() {
        SiegePlate x = Check.townOf(TOWN);
        x.day(2, 1);
        x.keep(1);
        String kept = Check.besieged(x);
        for (int turn = 0; turn < 3; turn++) {
            x.day(turn, 5);
            x.relief(turn == 1);
            CHECK.due("goBack(1)", x.goBack(1), 1);
            CHECK.same("turn " + turn, Check.besieged(x), kept);
        }
    }

    /** Images of a town that is RELIEVED or FALLEN, and back from there. */
    private static void imagesOfWhatIsOver() {
        SiegePlate x = Check.townOf(TOWN);
        x.keep(0);
        x.relief(false);
        CHECK.due("kept when fallen", x.keep(1), 1);
        CHECK.due("fallen cannot be undone then", x.undo(), Check.NOT);
        CHECK.due("back when fallen", x.goBack(0), 1);
        CHECK.due("besieged", x.told(10), 0);
        CHECK.due("a gun", x.gun(), 10);
        x.relief(true);
        CHECK.due("relieved, back to fallen", x.goBack(1), 1);
        CHECK.due("fallen", x.told(10), 2);
        CHECK.due("for good", x.gun(), Check.NOT);
    }

    /** "IMAGES are gone" by town(), not by its FAULT. */
    private static void imagesAreGoneWithTheTown() {
        SiegePlate x = Check.townOf(TOWN);
        x.keep(0);
        x.keep(1);
        x.gun();
        Check.becomes(x, "t5 5;x");
        CHECK.due("a fault leaves them", x.goBack(1), 1);
        Check.becomes(x, TOWN);
        CHECK.due("a town takes the first", x.goBack(0), Check.NOT);
        CHECK.due("and the second", x.goBack(1), Check.NOT);
        x.keep(0);
        Check.becomes(x, " ");
        CHECK.due("no town, too", x.goBack(0), Check.NOT);
    }

    /** Nothing refuses them without a TOWN: THE SEED is kept. */
    private static void imagesWithoutATown() {
        SiegePlate x = new SiegePlate();
        x.seed(8);
        CHECK.due("keep", x.keep(0), 1);
        x.seed(9);
        CHECK.due("not kept", x.goBack(1), Check.NOT);
        CHECK.due("goBack", x.goBack(0), 1);
        CHECK.due("its seed", x.seed(0), 8);
        Check.becomes(x, TOWN);
        CHECK.due("gone with a town", x.goBack(0), Check.NOT);
    }

    /** The text, what is shown and the book are no part of an image. */
    private static void allElseStays() {
        SiegePlate x = Check.townOf(TOWN);
        x.feed('t');
        x.show(0, 1, 2, 8);
        x.write(0, 9);
        x.keep(0);
        CHECK.due("text behind keep", x.told(6), 1);
        CHECK.due("shown behind keep", x.told(11), 1);
        CHECK.due("book behind keep", x.told(12), 1);
        x.feed('9');
        x.show(0, 1, 2, 8);
        x.tear();
        x.show(1, 2, 3, 8);
        x.write(1, 9);
        x.write(1, 9);
        x.goBack(0);
        CHECK.due("text behind goBack", x.told(6), 2);
        CHECK.due("shown behind goBack", x.told(11), 1);
        CHECK.due("book behind goBack", x.told(12), 2);
    }
}
