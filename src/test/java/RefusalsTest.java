import java.util.function.Consumer;
import java.util.function.ToIntFunction;

/**
 * "REFUSALS, of several the first in this order: UNKNOWN, OUTSIDE, NOT, FULL. What is refused changes nothing."
 * Every refusal of every call, on both sides of each bound, on an object of its own with a twin beside it.
 */
public final class RefusalsTest {
    private static final Check CHECK = new Check();
    private static final Twins TWINS = new Twins(CHECK);
    private static final int LEAST = Integer.MIN_VALUE;
    private static final int MOST = Integer.MAX_VALUE;

    private static String state = "";
    private static Consumer<SiegePlate> made = x -> { };

    public static void main(String[] args) {
        state("besieged", Twins::besieged);
        unknownOnes();
        outsideOfAsking();
        outsideOfDoing();
        outsideOfTrying();
        outsideOfShowing();
        notOfTheBesieged();
        state("relieved", Twins::relieved);
        overForGood();
        unknownOnes();
        outsideOfDoing();
        state("fallen", Twins::fallen);
        overForGood();
        unknownOnes();
        outsideOfDoing();
        state("without a town", Twins::withoutTown);
        unknownWithoutTown();
        notWithoutTown();
        outsideOfAsking();
        outsideWithoutTown();
        withoutMoney();
        full();
        CHECK.end();
    }

    private static void state(String name, Consumer<SiegePlate> how) {
        state = name;
        made = how;
    }

    private static void unknown(String what, ToIntFunction<SiegePlate> call) {
        TWINS.unchanged(state + ": " + what, made, call, Check.UNKNOWN);
    }

    private static void outside(String what, ToIntFunction<SiegePlate> call) {
        TWINS.unchanged(state + ": " + what, made, call, Check.OUTSIDE);
    }

    private static void not(String what, ToIntFunction<SiegePlate> call) {
        TWINS.unchanged(state + ": " + what, made, call, Check.NOT);
    }

    private static void full(String what, ToIntFunction<SiegePlate> call) {
        TWINS.unchanged(state + ": " + what, made, call, Check.FULL);
    }

    /** Numbers that neither a company of three, a money of two, a good of three nor an image has. */
    private static void unknownOnes() {
        for (int no : new int[] {LEAST, -2, -1, 3, 4, 5, 6, MOST}) {
            unknown("company(" + no + ", 0)", x -> x.company(no, 0));
            unknown("company(" + no + ", 5)", x -> x.company(no, 5));
            unknown("sally(" + no + ", 1)", x -> x.sally(no, 1));
            unknown("sally(" + no + ", 0)", x -> x.sally(no, 0));
            unknown("owed(" + no + ", 0)", x -> x.owed(no, 0));
            unknown("owed(" + no + ", 3)", x -> x.owed(no, 3));
            unknown("write(" + no + ", 0)", x -> x.write(no, 0));
            unknown("write(" + no + ", 100)", x -> x.write(no, 100));
            unknown("costs(" + no + ")", x -> x.costs(no));
        }
        for (int no : new int[] {LEAST, -2, 3, 4, 5, 6, MOST}) {
            unknown("bought(1, " + no + ")", x -> x.bought(1, no));
        }
        for (int no : new int[] {LEAST, -2, -1, 2, 3, 4, MOST}) {
            unknown("money(" + no + ", 0)", x -> x.money(no, 0));
            unknown("money(" + no + ", 3)", x -> x.money(no, 3));
            unknown("promise(" + no + ", 0)", x -> x.promise(no, 0));
            unknown("promise(" + no + ", 61)", x -> x.promise(no, 61));
            unknown("bought(" + no + ", 0)", x -> x.bought(no, 0));
            unknown("bought(" + no + ", NONE)", x -> x.bought(no, Check.NONE));
            unknown("show(" + no + ", 0, 0, 0)", x -> x.show(no, 0, 0, 0));
            unknown("show(" + no + ", 100, -1, 100)", x -> x.show(no, 100, -1, 100));
            unknown("keep(" + no + ")", x -> x.keep(no));
            unknown("goBack(" + no + ")", x -> x.goBack(no));
        }
    }

    private static void outsideOfAsking() {
        for (int out : new int[] {LEAST, -1, 256, MOST}) {
            outside("feed(" + out + ")", x -> x.feed(out));
        }
        for (int out : new int[] {LEAST, -1, 15, MOST}) {
            outside("told(" + out + ")", x -> x.told(out));
        }
        for (int out : new int[] {LEAST, -1}) {
            outside("seed(" + out + ")", x -> x.seed(out));
        }
    }

    private static void outsideOfDoing() {
        for (int out : new int[] {LEAST, -1, 4, MOST}) {
            outside("day(" + out + ", 1)", x -> x.day(out, 1));
            outside("drift(" + out + ", 1)", x -> x.drift(out, 1));
        }
        for (int out : new int[] {LEAST, -1, 0, 31, MOST}) {
            outside("day(2, " + out + ")", x -> x.day(2, out));
            outside("drift(2, " + out + ")", x -> x.drift(2, out));
        }
        for (int out : new int[] {LEAST, -1, 0, 100, MOST}) {
            outside("sally(0, " + out + ")", x -> x.sally(0, out));
        }
    }

    private static void outsideOfTrying() {
        for (int out : new int[] {LEAST, -1, 5, MOST}) {
            outside("company(2, " + out + ")", x -> x.company(2, out));
        }
        for (int out : new int[] {LEAST, -1, 3, MOST}) {
            outside("money(1, " + out + ")", x -> x.money(1, out));
            outside("owed(2, " + out + ")", x -> x.owed(2, out));
            outside("least(0, " + out + ")", x -> x.least(0, out));
        }
        for (int out : new int[] {LEAST, -1, 61, MOST}) {
            outside("promise(1, " + out + ")", x -> x.promise(1, out));
        }
        for (int out : new int[] {LEAST, -1, 0, 6, MOST}) {
            outside("rations(" + out + ", NONE)", x -> x.rations(out, Check.NONE));
        }
        for (int out : new int[] {LEAST, -1, 4, MOST}) {
            outside("firstToDesert(" + out + ")", x -> x.firstToDesert(out));
            outside("holds(" + out + ")", x -> x.holds(out));
        }
        for (int out : new int[] {LEAST, -1, 6, MOST}) {
            outside("least(" + out + ", 0)", x -> x.least(out, 0));
        }
        for (int out : new int[] {LEAST, -1, 0, 1000, MOST}) {
            outside("offer(" + out + ", 1)", x -> x.offer(out, 1));
        }
        for (int out : new int[] {LEAST, -1, 100000000, MOST}) {
            outside("offer(1, " + out + ")", x -> x.offer(1, out));
        }
    }

    private static void outsideOfShowing() {
        for (int out : new int[] {LEAST, -1, 100, MOST}) {
            outside("show(1, " + out + ", 0, 0)", x -> x.show(1, out, 0, 0));
            outside("show(1, 0, " + out + ", 0)", x -> x.show(1, 0, out, 0));
            outside("show(1, 0, 0, " + out + ")", x -> x.show(1, 0, 0, out));
            outside("write(2, " + out + ")", x -> x.write(2, out));
        }
    }

    private static void notOfTheBesieged() {
        not("sally(0, 8) of 7 men", x -> x.sally(0, 8));
        not("sally(0, 99) of 7 men", x -> x.sally(0, 99));
        not("goBack(1), which was not kept", x -> x.goBack(1));
        made = x -> Check.becomes(x, Twins.TOWN);
        not("undo() of nothing", SiegePlate::undo);
        not("goBack(0), which was not kept", x -> x.goBack(0));
        made = x -> {
            Twins.besieged(x);
            x.sally(2, 5);
        };
        not("sally(2, 1) of no men", x -> x.sally(2, 1));
    }

    private static void overForGood() {
        not("day(2, 1)", x -> x.day(2, 1));
        not("day(0, 30)", x -> x.day(0, 30));
        not("gun()", SiegePlate::gun);
        not("sally(0, 1)", x -> x.sally(0, 1));
        not("sally(0, 99)", x -> x.sally(0, 99));
        not("relief(true)", x -> x.relief(true));
        not("relief(false)", x -> x.relief(false));
        not("drift(2, 1)", x -> x.drift(2, 1));
        not("drift(0, 30)", x -> x.drift(0, 30));
        not("goBack(1)", x -> x.goBack(1));
    }

    private static void unknownWithoutTown() {
        unknown("company(0, 0)", x -> x.company(0, 0));
        unknown("company(0, 5)", x -> x.company(0, 5));
        unknown("money(0, 0)", x -> x.money(0, 0));
        unknown("money(0, 3)", x -> x.money(0, 3));
        unknown("sally(0, 1)", x -> x.sally(0, 1));
        unknown("sally(0, 0)", x -> x.sally(0, 0));
        unknown("costs(0)", x -> x.costs(0));
        unknown("promise(0, 0)", x -> x.promise(0, 0));
        unknown("promise(0, 61)", x -> x.promise(0, 61));
        unknown("owed(0, 0)", x -> x.owed(0, 0));
        unknown("owed(0, 3)", x -> x.owed(0, 3));
        unknown("bought(0, NONE)", x -> x.bought(0, Check.NONE));
        unknown("bought(0, 0)", x -> x.bought(0, 0));
        unknown("show(0, 0, 0, 0)", x -> x.show(0, 0, 0, 0));
        unknown("show(0, 100, 0, 0)", x -> x.show(0, 100, 0, 0));
        unknown("write(0, 0)", x -> x.write(0, 0));
        unknown("write(0, 100)", x -> x.write(0, 100));
        unknown("keep(2)", x -> x.keep(2));
        unknown("goBack(2)", x -> x.goBack(2));
    }

    private static void notWithoutTown() {
        not("day(0, 1)", x -> x.day(0, 1));
        not("gun()", SiegePlate::gun);
        not("relief(true)", x -> x.relief(true));
        not("relief(false)", x -> x.relief(false));
        not("drift(0, 1)", x -> x.drift(0, 1));
        not("undo()", SiegePlate::undo);
        not("rations(1, NONE)", x -> x.rations(1, Check.NONE));
        not("rations(1, 0)", x -> x.rations(1, 0));
        not("rations(1, 1), which has no such i", x -> x.rations(1, 1));
        not("firstToDesert(0)", x -> x.firstToDesert(0));
        not("holds(0)", x -> x.holds(0));
        not("offer(1, 0)", x -> x.offer(1, 0));
        not("goBack(0)", x -> x.goBack(0));
    }

    private static void outsideWithoutTown() {
        outsideOfDays();
        outside("rations(0, NONE)", x -> x.rations(0, Check.NONE));
        outside("rations(6, 9)", x -> x.rations(6, 9));
        outside("firstToDesert(4)", x -> x.firstToDesert(4));
        outside("holds(-1)", x -> x.holds(-1));
        outside("least(6, 0)", x -> x.least(6, 0));
        outside("least(-1, 0)", x -> x.least(-1, 0));
        outside("least(0, 3)", x -> x.least(0, 3));
        outside("offer(0, 0)", x -> x.offer(0, 0));
        outside("offer(1, -1)", x -> x.offer(1, -1));
    }

    private static void outsideOfDays() {
        outside("day(4, 1)", x -> x.day(4, 1));
        outside("day(0, 0)", x -> x.day(0, 0));
        outside("day(0, 31)", x -> x.day(0, 31));
        outside("drift(-1, 1)", x -> x.drift(-1, 1));
        outside("drift(0, 0)", x -> x.drift(0, 0));
        outside("drift(0, 31)", x -> x.drift(0, 31));
    }

    private static void withoutMoney() {
        state("a town without money", x -> Check.becomes(x, "t9 9;c5 1 1;g5;"));
        not("offer(1, 0)", x -> x.offer(1, 0));
        not("offer(999, 99999999)", x -> x.offer(999, 99999999));
        outside("offer(0, 0)", x -> x.offer(0, 0));
        outside("offer(1000, 0)", x -> x.offer(1000, 0));
        outside("offer(1, 100000000)", x -> x.offer(1, 100000000));
    }

    private static void full() {
        state("a text of 240 letters", x -> Check.feedAll(x, "t7 3;" + " ".repeat(234) + "x"));
        full("feed(0)", x -> x.feed(0));
        full("feed(255)", x -> x.feed(255));
        outside("feed(-1)", x -> x.feed(-1));
        outside("feed(256)", x -> x.feed(256));
        state("eight squares and fifteen entries", RefusalsTest::showAndWriteAll);
        full("show(0, 0, 0, 0)", x -> x.show(0, 0, 0, 0));
        full("show(1, 99, 99, 99)", x -> x.show(1, 99, 99, 99));
        outside("show(1, 100, 0, 0)", x -> x.show(1, 100, 0, 0));
        outside("show(1, 0, -1, 0)", x -> x.show(1, 0, -1, 0));
        outside("show(1, 0, 0, 100)", x -> x.show(1, 0, 0, 100));
        unknown("show(2, 0, 0, 0)", x -> x.show(2, 0, 0, 0));
        full("write(0, 0)", x -> x.write(0, 0));
        full("write(2, 99)", x -> x.write(2, 99));
        outside("write(2, 100)", x -> x.write(2, 100));
        unknown("write(3, 0)", x -> x.write(3, 0));
        state("above 9000 days", RefusalsTest::goLate);
        full("day(2, 1)", x -> x.day(2, 1));
        full("day(0, 30)", x -> x.day(0, 30));
        full("drift(2, 1)", x -> x.drift(2, 1));
        full("drift(0, 30)", x -> x.drift(0, 30));
        outsideOfDays();
        state("relieved above 9000 days", x -> {
            goLate(x);
            x.relief(true);
        });
        not("day(2, 1)", x -> x.day(2, 1));
        not("drift(2, 1)", x -> x.drift(2, 1));
    }

    private static void showAndWriteAll(SiegePlate x) {
        Check.becomes(x, Twins.TOWN);
        for (int i = 0; i < 8; i++) {
            x.show(i % 2, i, 4, i);
        }
        x.write(0, 10);
        for (int i = 1; i < 15; i++) {
            x.write(i % 3, i);
        }
    }

    private static void goLate(SiegePlate x) {
        Twins.besieged(x);
        Hidden.setDays(x, 9001);
    }
}
