import java.util.Random;

/** Runs of random calls on the class and on the model: every answer must be the same. */
public final class ModelTest {
    private static final int RUNS = 1500;
    private static final int CALLS = 260;
    private static final String LETTERS = "tcmgh;0123456789   x";

    private final Random random;
    private final SiegePlate x = new SiegePlate();
    private final Model model = new Model();
    private final StringBuilder calls = new StringBuilder();
    private int rows = 0;
    private int wrong = 0;

    private ModelTest(long run) {
        random = new Random(run);
    }

    public static void main(String[] args) {
        int wrong = 0;
        int rows = 0;
        for (int run = 0; run < RUNS; run++) {
            ModelTest test = new ModelTest(run);
            test.play();
            wrong += test.wrong;
            rows += test.rows;
        }
        System.out.println(rows + " answers, " + wrong + " not as the model's");
        if (wrong != 0 || rows == 0) {
            System.exit(1);
        }
    }

    private void play() {
        feedTown();
        for (int i = 0; i < CALLS && wrong == 0; i++) {
            call();
        }
    }

    private void compare(String call, int got, int want) {
        rows++;
        calls.append(call).append(' ');
        if (got != want) {
            wrong++;
            System.out.println(calls + "answered " + got + ", the model's is " + want);
        }
    }

    private void feedTown() {
        String text = random.nextInt(5) == 0 ? anyText() : townText();
        if (random.nextInt(4) == 0) {
            text = spoilt(text);
        }
        for (int i = 0; i < text.length(); i++) {
            int letter = text.charAt(i);
            compare("feed(" + letter + ")", x.feed(letter), model.feed(letter));
        }
        compare("town()", x.town(), model.town());
        compare("fault()", x.fault(), model.fault());
    }

    private String anyText() {
        StringBuilder s = new StringBuilder(random.nextBoolean() ? "t9 9;" : "");
        for (int n = random.nextInt(30); n > 0; n--) {
            s.append(LETTERS.charAt(random.nextInt(LETTERS.length())));
        }
        return s.toString();
    }

    private String townText() {
        StringBuilder s = new StringBuilder();
        s.append(clause("t", below(random.nextBoolean() ? 1000 : 120), below(random.nextBoolean() ? 100 : 8)));
        int over = random.nextInt(12) == 0 ? 2 : 1;
        int most = random.nextBoolean() ? 100 : 12;
        for (int n = below(5 + over); n > 0; n--) {
            s.append(clause("c", below(most), below(10), below(random.nextBoolean() ? 10 : 3)));
        }
        for (int n = below(4 + over); n > 0; n--) {
            s.append(clause("m", below(random.nextBoolean() ? 1000 : 60), 1 + below(99), below(100)));
        }
        for (int n = below(6 + over); n > 0; n--) {
            s.append(clause("g", 1 + below(random.nextBoolean() ? 99 : 9)));
        }
        for (int n = below(4 + over); n > 0; n--) {
            s.append(clause("h", below(random.nextInt(4) == 0 ? 100 : 8), 1 + below(99)));
        }
        return s.toString();
    }

    private String clause(String word, int... numbers) {
        StringBuilder s = new StringBuilder(blanks()).append(word);
        for (int i = 0; i < numbers.length; i++) {
            s.append(i > 0 ? " " : "").append(blanks());
            s.append(random.nextInt(30) == 0 ? "0" : "").append(numbers[i]);
        }
        return s.append(blanks()).append(';').toString();
    }

    private String blanks() {
        return random.nextInt(10) == 0 ? " " : "";
    }

    private String spoilt(String text) {
        if (text.isEmpty()) {
            return text;
        }
        StringBuilder s = new StringBuilder(text);
        int at = random.nextInt(s.length());
        char letter = random.nextInt(6) == 0 ? (char) random.nextInt(256) : LETTERS.charAt(random.nextInt(LETTERS.length()));
        switch (random.nextInt(4)) {
            case 0 -> s.deleteCharAt(at);
            case 1 -> s.insert(at, letter);
            case 2 -> s.setCharAt(at, letter);
            default -> s.setLength(at);
        }
        return s.toString();
    }

    private int below(int n) {
        return random.nextInt(n);
    }

    /** Mostly within the bounds, sometimes at their edges or beyond, seldom far off. */
    private int about(int low, int high) {
        return switch (random.nextInt(40)) {
            case 0 -> low - 1;
            case 1 -> high + 1;
            case 2 -> low;
            case 3 -> high;
            case 4 -> random.nextInt();
            case 5 -> random.nextBoolean() ? Integer.MIN_VALUE : Integer.MAX_VALUE;
            default -> low + random.nextInt(high - low + 1);
        };
    }

    private int aCompany() {
        return about(0, Math.max(0, model.told(2) - 1));
    }

    private int aMoney() {
        return about(0, Math.max(0, model.told(3) - 1));
    }

    private int aGood() {
        return about(0, Math.max(0, model.told(4) - 1));
    }

    private void call() {
        switch (random.nextInt(11)) {
            case 0, 1, 2 -> done();
            case 3, 4 -> tried();
            case 5 -> shown();
            case 6 -> images();
            default -> asked();
        }
        if (random.nextInt(150) == 0) {
            feedTown();
        }
    }

    private void asked() {
        int what;
        switch (random.nextInt(3)) {
            case 0 -> {
                what = about(0, 14);
                compare("told(" + what + ")", x.told(what), model.told(what));
            }
            case 1 -> {
                int c = aCompany();
                what = about(0, 4);
                compare("company(" + c + ", " + what + ")", x.company(c, what), model.company(c, what));
            }
            default -> {
                int m = aMoney();
                what = about(0, 2);
                compare("money(" + m + ", " + what + ")", x.money(m, what), model.money(m, what));
            }
        }
    }

    private void done() {
        int q = about(0, 3);
        int n = random.nextInt(4) == 0 ? about(1, 30) : about(1, 3);
        switch (random.nextInt(12)) {
            case 0, 1, 2, 3 -> compare("day(" + q + ", " + n + ")", x.day(q, n), model.day(q, n));
            case 4 -> compare("gun()", x.gun(), model.gun());
            case 5, 6 -> {
                int c = aCompany();
                int k = random.nextBoolean() ? about(1, 9) : about(1, 99);
                compare("sally(" + c + ", " + k + ")", x.sally(c, k), model.sally(c, k));
            }
            case 7 -> {
                boolean is = random.nextBoolean();
                compare("relief(" + is + ")", x.relief(is), model.relief(is));
            }
            case 8 -> compare("drift(" + q + ", " + n + ")", x.drift(q, n), model.drift(q, n));
            default -> {
                compare("undo()", x.undo(), model.undo());
            }
        }
    }

    private void tried() {
        int q = about(0, 3);
        switch (random.nextInt(9)) {
            case 0 -> {
                int g = aGood();
                compare("costs(" + g + ")", x.costs(g), model.costs(g));
            }
            case 1 -> {
                int m = aMoney();
                int n = about(0, 60);
                compare("promise(" + m + ", " + n + ")", x.promise(m, n), model.promise(m, n));
            }
            case 2 -> {
                int n = random.nextInt(6) == 0 ? about(1, 5) : about(1, 3);
                int i = about(-1, 3);
                compare("rations(" + n + ", " + i + ")", x.rations(n, i), model.rations(n, i));
            }
            case 3 -> compare("firstToDesert(" + q + ")", x.firstToDesert(q), model.firstToDesert(q));
            case 4 -> compare("holds(" + q + ")", x.holds(q), model.holds(q));
            case 5 -> {
                int c = aCompany();
                int reading = about(0, 2);
                compare("owed(" + c + ", " + reading + ")", x.owed(c, reading), model.owed(c, reading));
            }
            case 6 -> {
                int k = about(0, 5);
                int reading = about(0, 2);
                compare("least(" + k + ", " + reading + ")", x.least(k, reading), model.least(k, reading));
            }
            case 7 -> {
                int m = aMoney();
                int g = random.nextBoolean() ? -1 : aGood();
                compare("bought(" + m + ", " + g + ")", x.bought(m, g), model.bought(m, g));
            }
            default -> offer();
        }
    }

    private void offer() {
        int v = about(1, 999);
        int worth = model.promise(0, 9);
        int v2 = random.nextBoolean() ? v : about(1, 5);
        int near = worth > 0 && v2 > 0 && v2 < 1000 ? v2 * worth + random.nextInt(3) - 1 : 0;
        int amount = random.nextBoolean() ? near : about(0, 99999999);
        compare("offer(" + v2 + ", " + amount + ")", x.offer(v2, amount), model.offer(v2, amount));
    }

    private void shown() {
        switch (random.nextInt(8)) {
            case 0, 1, 2 -> {
                int m = aMoney();
                int died = random.nextInt(3) == 0 ? 99 : about(0, 99);
                int stamped = random.nextInt(3) == 0 ? died : about(0, 99);
                int weighs = random.nextBoolean() ? about(0, 99) : model.money(Math.max(0, Math.min(m, 3)), 2);
                compare("show(" + m + ", " + died + ", " + stamped + ", " + weighs + ")",
                    x.show(m, died, stamped, weighs), model.show(m, died, stamped, weighs));
            }
            case 3 -> {
                int c = aCompany();
                int men = random.nextInt(3) > 0 ? model.company(c, 0) : about(0, 99);
                compare("write(" + c + ", " + men + ")", x.write(c, men), model.write(c, men));
            }
            case 4 -> {
                if (random.nextInt(4) == 0) {
                    compare("tear()", x.tear(), model.tear());
                }
            }
            case 5 -> compare("judge()", x.judge(), model.judge());
            case 6 -> compare("forged()", x.forged(), model.forged());
            default -> compare("weighFirst()", x.weighFirst(), model.weighFirst());
        }
    }

    private void images() {
        int i = about(0, 1);
        switch (random.nextInt(4)) {
            case 0 -> compare("keep(" + i + ")", x.keep(i), model.keep(i));
            case 1, 2 -> compare("goBack(" + i + ")", x.goBack(i), model.goBack(i));
            default -> {
                int v = about(0, Integer.MAX_VALUE - 1);
                compare("seed(" + v + ")", x.seed(v), model.seed(v));
            }
        }
    }
}
