/** Promises 29 to 31: seed, keep, goBack. */
public final class DrawsTest {
    private static final Check CHECK = new Check();
    private static final String TOWN =
        "t90 5;c10 2 1;c20 1 0;c5 3 4;m60 10 8;m50 5 1;g10;g4;g7;h2 30;";

    public static void main(String[] args) {
        seed();
        draws();
        keepAndGoBack();
        twoImages();
        imagesOfNoTown();
        refusedImages();
        CHECK.end();
    }

    private static void seed() {
        SiegePlate x = new SiegePlate();
        CHECK.due("at first", x.seed(Integer.MAX_VALUE), 0);
        CHECK.due("what it was", x.seed(5), Integer.MAX_VALUE);
        CHECK.refused("below 0", x, () -> x.seed(-1), Check.OUTSIDE);
        CHECK.refused("far below 0", x, () -> x.seed(Integer.MIN_VALUE), Check.OUTSIDE);
        CHECK.due("still", x.seed(0), 5);
    }

    private static void draws() {
        long[] seeds = {0, 1, 5, 2147483647L, 1073741824L, 123456789L};
        for (long start : seeds) {
            SiegePlate x = Check.townOf("t999 0;c1 0 9;");
            x.seed((int) start);
            x.drift(2, 3);
            long due = start;
            long guns = 0;
            for (int i = 0; i < 3; i++) {
                due = next(due);
                if (due / 65536 % 100 < 5 * guns) {
                    break;
                }
                due = next(due);
                guns += due / 65536 % 6 == 0 ? 1 : 0;
            }
            CHECK.due("seed from " + start, Check.seedOf(x), due);
            CHECK.due("guns from " + start, x.told(1), 5 * guns);
        }
    }

    private static long next(long v) {
        return (v * 1103515245L + 12345L) % 2147483648L;
    }

    private static void keepAndGoBack() {
        SiegePlate x = Check.townOf(TOWN);
        x.seed(5);
        x.day(2, 2);
        x.gun();
        CHECK.due("keep", x.keep(0), 1);
        CHECK.due("nothing to undo", x.told(13), 0);
        CHECK.due("undo", x.undo(), Check.NOT);
        String kept = Check.seen(x);
        x.drift(1, 30);
        x.day(1, 1);
        CHECK.due("goBack", x.goBack(0), 1);
        CHECK.same("goBack", Check.seen(x), kept);
        CHECK.due("undo behind it", x.undo(), Check.NOT);
        x.relief(false);
        CHECK.due("goBack again", x.goBack(0), 1);
        CHECK.same("goBack again", Check.seen(x), kept);
        x.gun();
        CHECK.due("undo a gun", x.undo(), 0);
        CHECK.same("undo a gun", Check.seen(x), kept);
    }

    private static void twoImages() {
        SiegePlate x = Check.townOf(TOWN);
        x.keep(0);
        String first = Check.seen(x);
        x.day(0, 3);
        x.relief(true);
        x.seed(11);
        x.keep(1);
        String second = Check.seen(x);
        x.goBack(0);
        CHECK.same("image 0", Check.seen(x), first);
        x.goBack(1);
        CHECK.same("image 1", Check.seen(x), second);
        x.keep(0);
        x.undo();
        x.goBack(0);
        CHECK.same("image 0 is kept anew", Check.seen(x), second);
    }

    private static void imagesOfNoTown() {
        SiegePlate x = new SiegePlate();
        x.seed(3);
        CHECK.due("keep no town", x.keep(1), 1);
        x.seed(4);
        CHECK.due("go back to it", x.goBack(1), 1);
        CHECK.due("its seed", Check.seedOf(x), 3);
        CHECK.due("no town", x.told(14), 0);
    }

    private static void refusedImages() {
        SiegePlate x = Check.townOf(TOWN);
        x.gun();
        CHECK.refused("keep(2)", x, () -> x.keep(2), Check.UNKNOWN);
        CHECK.refused("keep(-1)", x, () -> x.keep(-1), Check.UNKNOWN);
        CHECK.refused("goBack(2)", x, () -> x.goBack(2), Check.UNKNOWN);
        CHECK.refused("goBack(-1)", x, () -> x.goBack(-1), Check.UNKNOWN);
        CHECK.refused("goBack(0)", x, () -> x.goBack(0), Check.NOT);
        CHECK.due("what can be undone stays", x.undo(), 0);
    }
}
