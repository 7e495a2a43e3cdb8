/** Promises 23 to 28: show, forged, weighFirst, write, tear, judge. */
public final class ShownTest {
    private static final Check CHECK = new Check();
    private static final String TOWN = "t9 5;c10 2 1;c20 1 0;m60 10 8;m50 5 1;m50 5 0;";

    public static void main(String[] args) {
        show();
        forged();
        weighFirst();
        write();
        tear();
        judge();
        stayWhatIsUndone();
        CHECK.end();
    }

    private static void show() {
        SiegePlate x = Check.townOf(TOWN);
        CHECK.refused("money 3", x, () -> x.show(3, 100, 0, 0), Check.UNKNOWN);
        CHECK.refused("money -1", x, () -> x.show(-1, 0, 0, 0), Check.UNKNOWN);
        CHECK.refused("died -1", x, () -> x.show(0, -1, 0, 0), Check.OUTSIDE);
        CHECK.refused("died 100", x, () -> x.show(0, 100, 0, 0), Check.OUTSIDE);
        CHECK.refused("stamped -1", x, () -> x.show(0, 0, -1, 0), Check.OUTSIDE);
        CHECK.refused("stamped 100", x, () -> x.show(0, 0, 100, 0), Check.OUTSIDE);
        CHECK.refused("weighs -1", x, () -> x.show(0, 0, 0, -1), Check.OUTSIDE);
        CHECK.refused("weighs 100", x, () -> x.show(0, 0, 0, 100), Check.OUTSIDE);
        for (int i = 1; i <= 8; i++) {
            CHECK.due("show", x.show(i % 3, 99, 99, 99), i);
        }
        CHECK.refused("a ninth", x, () -> x.show(0, 0, 0, 0), Check.FULL);
        CHECK.refused("a ninth, outside", x, () -> x.show(0, 0, 0, 100), Check.OUTSIDE);
        CHECK.refused("a ninth, unknown", x, () -> x.show(3, 0, 0, 100), Check.UNKNOWN);
        x.relief(true);
        x.tear();
        CHECK.due("also when relieved", x.show(0, 0, 0, 0), 1);
    }

    private static void forged() {
        SiegePlate x = Check.townOf(TOWN);
        CHECK.tried("none shown", x, x::forged, 0);
        x.show(0, 5, 5, 8);
        CHECK.tried("on the day he died, as heavy", x, x::forged, 0);
        x.show(0, 5, 6, 99);
        CHECK.tried("behind it", x, x::forged, 2);
        x.show(0, 5, 4, 7);
        CHECK.tried("lighter", x, x::forged, 6);
        x.show(0, 99, 99, 8);
        CHECK.tried("he lives", x, x::forged, 6);
        x.show(2, 0, 0, 0);
        CHECK.tried("of no weight", x, x::forged, 6);
        x.show(1, 98, 99, 0);
        x.show(1, 0, 0, 1);
        x.show(1, 9, 0, 0);
        CHECK.tried("all eight", x, x::forged, 2 | 4 | 32 | 128);
    }

    private static void weighFirst() {
        SiegePlate x = Check.townOf(TOWN);
        CHECK.tried("none shown", x, x::weighFirst, Check.NONE);
        x.show(0, 1, 2, 0);
        CHECK.tried("its stamp tells", x, x::weighFirst, Check.NONE);
        x.show(2, 1, 1, 0);
        CHECK.tried("weight alone", x, x::weighFirst, 2);
        x.show(1, 99, 1, 99);
        CHECK.tried("of like ones the least", x, x::weighFirst, 1);
        x.show(0, 1, 9, 9);
        CHECK.tried("told by their stamps", x, x::weighFirst, 1);
        x.show(2, 7, 3, 9);
        CHECK.tried("most", x, x::weighFirst, 2);
    }

    private static void write() {
        SiegePlate x = Check.townOf(TOWN);
        CHECK.refused("company 2", x, () -> x.write(2, 100), Check.UNKNOWN);
        CHECK.refused("company -1", x, () -> x.write(-1, 0), Check.UNKNOWN);
        CHECK.refused("men -1", x, () -> x.write(0, -1), Check.OUTSIDE);
        CHECK.refused("men 100", x, () -> x.write(0, 100), Check.OUTSIDE);
        for (int i = 1; i <= 15; i++) {
            CHECK.due("write", x.write(i % 2, i % 3 == 0 ? 99 : 0), i);
        }
        CHECK.refused("a sixteenth", x, () -> x.write(0, 0), Check.FULL);
        CHECK.refused("a sixteenth, outside", x, () -> x.write(0, 100), Check.OUTSIDE);
    }

    private static void tear() {
        SiegePlate x = Check.townOf(TOWN);
        CHECK.due("nothing", x.tear(), 0);
        x.show(0, 1, 2, 0);
        x.show(0, 1, 2, 0);
        x.write(0, 3);
        CHECK.due("tear", x.tear(), 3);
        CHECK.due("none shown", x.told(11), 0);
        CHECK.due("no entries", x.told(12), 0);
        CHECK.due("none forged", x.forged(), 0);
        CHECK.due("none wrong", x.judge(), Check.NONE);
        CHECK.due("again", x.tear(), 0);
        CHECK.due("without a town", new SiegePlate().tear(), 0);
    }

    private static void judge() {
        SiegePlate x = Check.townOf(TOWN);
        CHECK.tried("no book", x, x::judge, Check.NONE);
        x.write(0, 10);
        x.write(1, 20);
        CHECK.tried("both right", x, x::judge, Check.NONE);
        x.write(0, 9);
        x.write(1, 19);
        CHECK.tried("the third is wrong", x, x::judge, 2);
        x.sally(0, 1);
        CHECK.tried("now the first", x, x::judge, 0);
        x.undo();
        x.sally(1, 1);
        CHECK.tried("now the second", x, x::judge, 1);
    }

    private static void stayWhatIsUndone() {
        SiegePlate x = Check.townOf(TOWN);
        x.keep(0);
        x.gun();
        x.show(0, 1, 2, 0);
        x.write(0, 3);
        x.undo();
        CHECK.due("shown behind undo", x.told(11), 1);
        x.goBack(0);
        CHECK.due("shown behind goBack", x.told(11), 1);
        CHECK.due("book behind goBack", x.told(12), 1);
    }
}
