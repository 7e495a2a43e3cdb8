import java.util.function.IntSupplier;

/** Counts answers that are not as due, and tells them. */
final class Check {
    static final int NONE = SiegePlate.NONE;
    static final int UNKNOWN = SiegePlate.UNKNOWN;
    static final int OUTSIDE = SiegePlate.OUTSIDE;
    static final int NOT = SiegePlate.NOT;
    static final int FULL = SiegePlate.FULL;

    private int rows = 0;
    private int wrong = 0;

    void due(String what, long got, long want) {
        rows++;
        if (got != want) {
            wrong++;
            System.out.println(what + " answered " + got + ", due is " + want);
        }
    }

    void same(String what, String got, String want) {
        rows++;
        if (!got.equals(want)) {
            wrong++;
            System.out.println(what + " left\n  " + got + "\n  due is\n  " + want);
        }
    }

    /** A call that is refused changes nothing that can be seen. */
    void refused(String what, SiegePlate x, IntSupplier call, int want) {
        String before = seen(x);
        due(what, call.getAsInt(), want);
        same(what, seen(x), before);
    }

    /** A call that is tried changes nothing that can be seen. */
    void tried(String what, SiegePlate x, IntSupplier call, int want) {
        refused(what, x, call, want);
    }

    void end() {
        System.out.println(rows + " answers, " + wrong + " not as due");
        if (wrong != 0 || rows == 0) {
            System.exit(1);
        }
    }

    static void feedAll(SiegePlate x, String text) {
        for (int i = 0; i < text.length(); i++) {
            x.feed(text.charAt(i));
        }
    }

    static int becomes(SiegePlate x, String text) {
        feedAll(x, text);
        return x.town();
    }

    static SiegePlate townOf(String text) {
        SiegePlate x = new SiegePlate();
        int answer = becomes(x, text);
        if (answer < 0) {
            throw new IllegalStateException(text + " has a fault: " + answer + " at " + x.fault());
        }
        return x;
    }

    /** All that can be seen without changing it: the seed is put back as it was. */
    static String seen(SiegePlate x) {
        return besieged(x) + " text " + x.told(6) + " fault " + x.fault() + " shown " + x.told(11)
            + " book " + x.told(12) + " undoable " + x.told(13) + " forged " + x.forged()
            + " weigh " + x.weighFirst() + " judge " + x.judge() + " seed " + seedOf(x);
    }

    /** All of section 2, with what the text told. */
    static String besieged(SiegePlate x) {
        StringBuilder s = new StringBuilder();
        for (int what : new int[] {14, 0, 1, 2, 3, 4, 5, 7, 8, 9, 10}) {
            s.append(x.told(what)).append(' ');
        }
        for (int c = 0; c < x.told(2); c++) {
            s.append("| c");
            for (int what = 0; what < 5; what++) {
                s.append(' ').append(x.company(c, what));
            }
            for (int reading = 0; reading < 3; reading++) {
                s.append(' ').append(x.owed(c, reading));
            }
        }
        for (int m = 0; m < x.told(3); m++) {
            s.append("| m");
            for (int what = 0; what < 3; what++) {
                s.append(' ').append(x.money(m, what));
            }
        }
        for (int g = 0; g < x.told(4); g++) {
            s.append("| g ").append(x.costs(g));
        }
        return s.toString();
    }

    static int seedOf(SiegePlate x) {
        int v = x.seed(0);
        x.seed(v);
        return v;
    }
}
