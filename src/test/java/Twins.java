import java.util.function.Consumer;
import java.util.function.ToIntFunction;

/** Two objects made alike, one of them with a call more: what later calls show must be alike, too. */
final class Twins {
    static final String TOWN = "t90 5;c10 2 1;c20 1 0;c5 3 4;m60 10 8;m50 5 1;g10;g4;g7;h2 30;h5 9;";
    // a town but for its last letter, so that later calls show which letters the text has
    static final String HALF_A_TEXT = "t7 3;c4 1 1";

    private static final int[] BRIEF = {0, 1, 7, 8, 9, 10};

    private final Check check;

    Twins(Check check) {
        this.check = check;
    }

    void unchanged(String what, Consumer<SiegePlate> made, ToIntFunction<SiegePlate> call, int want) {
        SiegePlate x = make(made);
        SiegePlate twin = make(made);
        check.due(what, call.applyAsInt(x), want);
        check.due("fault() behind " + what, x.fault(), twin.fault());
        check.same("later calls behind " + what, later(x), later(twin));
    }

    static SiegePlate make(Consumer<SiegePlate> made) {
        SiegePlate x = new SiegePlate();
        made.accept(x);
        return x;
    }

    /** Something of all that there can be: days gone, pay, an image, what can be undone, squares, a book, a text. */
    static void besieged(SiegePlate x) {
        Check.becomes(x, TOWN);
        x.day(2, 1);
        x.gun();
        x.keep(0);
        x.day(2, 1);
        x.sally(0, 3);
        x.gun();
        x.show(0, 3, 5, 8);
        x.show(1, 4, 4, 0);
        x.write(0, 7);
        x.write(1, 9);
        x.seed(9);
        Check.feedAll(x, HALF_A_TEXT);
    }

    static void relieved(SiegePlate x) {
        besieged(x);
        x.relief(true);
    }

    static void fallen(SiegePlate x) {
        besieged(x);
        x.relief(false);
    }

    static void withoutTown(SiegePlate x) {
        x.seed(9);
        x.keep(1);
        x.seed(10);
        Check.feedAll(x, HALF_A_TEXT);
    }

    /** The answers of later calls that show all that an object holds; it is not the same behind them. */
    static String later(SiegePlate x) {
        StringBuilder s = new StringBuilder(Check.besieged(x));
        s.append("| shown ").append(x.told(11)).append(' ').append(x.forged()).append(' ').append(x.weighFirst());
        s.append("| book ").append(x.told(12)).append(' ').append(x.judge());
        s.append("| seed ").append(Check.seedOf(x));
        s.append("| tried ").append(x.rations(2, -1)).append(' ').append(x.rations(2, 0)).append(' ').append(x.holds(2));
        s.append(' ').append(x.firstToDesert(2)).append(' ').append(x.promise(0, 9)).append(' ').append(x.bought(0, -1));
        undoAll(x, s);
        for (int i = 0; i < 2; i++) {
            s.append("| image ").append(x.goBack(i)).append(' ').append(Check.seedOf(x));
            brief(x, s);
        }
        s.append("| drift ").append(x.drift(2, 4));
        brief(x, s);
        s.append("| text ").append(x.told(6)).append(' ').append(x.feed(';')).append(' ').append(x.town());
        s.append(' ').append(x.fault());
        brief(x, s);
        return s.toString();
    }

    private static void undoAll(SiegePlate x, StringBuilder s) {
        s.append("| undo ").append(x.told(13));
        for (int i = 0; i < 21; i++) {
            int answer = x.undo();
            s.append("| undo ").append(answer);
            if (answer < 0) {
                return;
            }
            brief(x, s);
        }
    }

    private static void brief(SiegePlate x, StringBuilder s) {
        for (int what : BRIEF) {
            s.append(' ').append(x.told(what));
        }
        s.append(' ').append(x.company(0, 3)).append(' ').append(x.owed(0, 0)).append(' ').append(x.money(0, 0));
    }
}
