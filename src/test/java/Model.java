import java.math.BigInteger;
import java.util.ArrayDeque;
import java.util.ArrayList;
import java.util.Arrays;
import java.util.Deque;
import java.util.List;
import java.util.Map;

/** The document once more, in another way and without care for speed, to compare the class with. */
final class Model {
    private static final int NONE = -1, UNKNOWN = -1000000001, OUTSIDE = -1000000002, NOT = -1000000003, FULL = -1000000004;

    private record Token(char kind, int place, String figures) { }
    private record Bound(int low, int high) { }
    private record Square(int m, int died, int stamped, int weighs) { }
    private record Entry(int c, int men) { }

    private static final Map<Character, List<Bound>> BOUNDS = Map.of(
        't', List.of(new Bound(0, 999), new Bound(0, 99)),
        'c', List.of(new Bound(0, 99), new Bound(0, 9), new Bound(0, 9)),
        'm', List.of(new Bound(0, 999), new Bound(1, 99), new Bound(0, 99)),
        'g', List.of(new Bound(1, 99)),
        'h', List.of(new Bound(0, 99), new Bound(1, 99)));
    private static final Map<Character, Integer> MOST = Map.of('t', 1, 'c', 5, 'm', 4, 'g', 6, 'h', 4);

    /** All of section 2. */
    private static final class State {
        long food, odds, days, hunger;
        int outcome;
        List<long[]> companies = new ArrayList<>(); // men, hungry days, words
        List<Long> squares = new ArrayList<>();
        List<long[]> payments = new ArrayList<>(); // company, kind, squares

        State copy() {
            State s = new State();
            s.food = food;
            s.odds = odds;
            s.days = days;
            s.hunger = hunger;
            s.outcome = outcome;
            companies.forEach(c -> s.companies.add(c.clone()));
            s.squares.addAll(squares);
            s.payments.addAll(payments);
            return s;
        }

        long men() {
            return companies.stream().mapToLong(c -> c[0]).sum();
        }
    }

    private String text = "";
    private int faultPlace = NONE;
    private List<int[]> clauses = List.of();
    private State now = new State();
    private BigInteger seed = BigInteger.ZERO;
    private final Deque<State> undoable = new ArrayDeque<>();
    private final State[] images = new State[2];
    private final BigInteger[] imageSeeds = new BigInteger[2];
    private final List<Square> shown = new ArrayList<>();
    private final List<Entry> book = new ArrayList<>();

    private List<int[]> all(char word) {
        return clauses.stream().filter(c -> c[0] == word).toList();
    }

    private boolean stands() {
        return !clauses.isEmpty();
    }

    private static boolean out(long x, long low, long high) {
        return x < low || x > high;
    }

    private boolean besieged() {
        return stands() && now.outcome == 0;
    }

    int feed(int letter) {
        if (out(letter, 0, 255)) return OUTSIDE;
        if (text.length() == 240) return FULL;
        text += (char) letter;
        return text.length();
    }

    private static List<Token> tokens(String text) {
        List<Token> list = new ArrayList<>();
        int i = 0;
        while (i < text.length()) {
            int j = i;
            while (j < text.length() && "0123456789".indexOf(text.charAt(j)) >= 0) j++;
            if (j > i) {
                list.add(new Token('#', i, text.substring(i, j)));
                i = j;
            } else {
                if (text.charAt(i) != ' ') list.add(new Token(text.charAt(i), i, ""));
                i++;
            }
        }
        if (!list.isEmpty()) list.add(new Token('$', text.length(), ""));
        return list;
    }

    /** The number and place of the first fault, or null; clauses go into the list. */
    private static int[] faultOf(String text, List<int[]> into) {
        List<Bound> open = null;
        char word = 0;
        List<Integer> numbers = new ArrayList<>();
        for (Token token : tokens(text)) {
            boolean mayBeWord = open == null;
            boolean mayBeNumber = open != null && numbers.size() < open.size();
            boolean mayBeEnd = open != null && numbers.size() == open.size();
            char kind = token.kind();
            boolean isEndOfText = token.place() == text.length();
            if (isEndOfText) {
                return mayBeWord ? null : new int[] {1, token.place()};
            }
            boolean stands = kind == '#' ? mayBeNumber
                : kind == ';' ? mayBeEnd
                : BOUNDS.containsKey(kind) && mayBeWord && (into.isEmpty() ? kind == 't' : true);
            if (!stands) return new int[] {1, token.place()};
            if (kind == '#') {
                Bound bound = open.get(numbers.size());
                if (token.figures().length() > 3) return new int[] {2, token.place()};
                int value = Integer.parseInt(token.figures());
                if (out(value, bound.low(), bound.high())) return new int[] {2, token.place()};
                numbers.add(value);
            } else if (kind == ';') {
                int[] clause = new int[4];
                clause[0] = word;
                for (int k = 0; k < numbers.size(); k++) clause[k + 1] = numbers.get(k);
                into.add(clause);
                numbers.clear();
                open = null;
            } else {
                long before = into.stream().filter(c -> c[0] == kind).count();
                if (before >= MOST.get(kind)) return new int[] {3, token.place()};
                word = kind;
                open = BOUNDS.get(kind);
            }
        }
        return null;
    }

    int town() {
        List<int[]> read = new ArrayList<>();
        int[] fault = faultOf(text, read);
        text = "";
        faultPlace = fault == null ? NONE : fault[1];
        if (fault != null) return -10 - fault[0];
        clauses = read;
        now = new State();
        for (int[] t : all('t')) {
            now.food = t[1];
            now.odds = t[2];
        }
        for (int[] c : all('c')) now.companies.add(new long[] {c[1], 0, 0});
        for (int[] m : all('m')) now.squares.add((long) m[1]);
        undoable.clear();
        Arrays.fill(images, null);
        shown.clear();
        book.clear();
        return all('c').size();
    }

    int fault() {
        return faultPlace;
    }

    int told(int what) {
        if (out(what, 0, 14)) return OUTSIDE;
        long[] answers = {now.food, now.odds, all('c').size(), all('m').size(), all('g').size(), all('h').size(),
            text.length(), now.days, now.hunger, now.men(), now.outcome, shown.size(), book.size(), undoable.size(),
            stands() ? 1 : 0};
        return (int) answers[what];
    }

    int company(int c, int what) {
        if (out(c, 0, all('c').size() - 1)) return UNKNOWN;
        if (out(what, 0, 4)) return OUTSIDE;
        long[] has = now.companies.get(c);
        int[] said = all('c').get(c);
        return (int) new long[] {has[0], said[2], said[3], has[1], has[2]}[what];
    }

    int money(int m, int what) {
        if (out(m, 0, all('m').size() - 1)) return UNKNOWN;
        if (out(what, 0, 2)) return OUTSIDE;
        return (int) new long[] {now.squares.get(m), all('m').get(m)[2], all('m').get(m)[3]}[what];
    }

    /** A day: who deserts, by company. */
    private boolean[] pass(State s, int q) {
        boolean[] deserts = new boolean[5];
        for (int[] h : all('h')) if (h[1] == s.days) s.food += h[2];
        boolean hunger = false;
        for (int c = 0; c < s.companies.size(); c++) {
            long[] has = s.companies.get(c);
            long needed = q * has[0];
            long gets = 0;
            if (s.food >= needed) {
                s.food -= needed;
                gets = q;
            }
            if (gets < 2) {
                if (has[0] > 0) hunger = true;
                has[1] += 1;
            } else {
                has[1] = 0;
            }
            if (has[1] > all('c').get(c)[3]) {
                long gone = Math.min(has[0], has[0] / 5 + 1);
                deserts[c] = gone > 0;
                has[0] -= gone;
            }
        }
        for (int c = 0; c < s.companies.size(); c++) {
            long[] has = s.companies.get(c);
            long needed = has[0] * all('c').get(c)[2];
            int kind = NONE;
            for (int m = s.squares.size() - 1; m >= 0; m--) if (s.squares.get(m) >= needed) kind = m;
            if (kind == NONE) {
                has[2] += needed;
            } else {
                s.squares.set(kind, s.squares.get(kind) - needed);
                s.payments.add(new long[] {c, kind, needed});
            }
        }
        s.hunger = hunger ? s.hunger + 1 : s.hunger == 0 ? 0 : s.hunger - 1;
        s.days++;
        return deserts;
    }

    private void remember() {
        undoable.addLast(now.copy());
        if (undoable.size() > 20) undoable.removeFirst();
    }

    private int daysRefused(int q, int n) {
        if (out(q, 0, 3) || out(n, 1, 30)) return OUTSIDE;
        if (!besieged()) return NOT;
        return now.days > 9000 ? FULL : 0;
    }

    int day(int q, int n) {
        int refused = daysRefused(q, n);
        if (refused != 0) return refused;
        remember();
        for (int i = 0; i < n; i++) if (now.men() > 0) pass(now, q);
        return (int) now.men();
    }

    private void raise(long more) {
        now.odds = Math.min(99, now.odds + more);
    }

    int gun() {
        if (!besieged()) return NOT;
        remember();
        raise(5);
        return (int) now.odds;
    }

    int sally(int c, int k) {
        if (out(c, 0, all('c').size() - 1)) return UNKNOWN;
        if (out(k, 1, 99)) return OUTSIDE;
        if (now.outcome != 0 || now.companies.get(c)[0] < k) return NOT;
        remember();
        now.companies.get(c)[0] -= k;
        raise(k / 2);
        return (int) now.odds;
    }

    int relief(boolean is) {
        if (!besieged()) return NOT;
        remember();
        now.outcome = is ? 1 : 2;
        return (int) now.days;
    }

    private int draw(int n) {
        seed = seed.multiply(BigInteger.valueOf(1103515245)).add(BigInteger.valueOf(12345)).mod(BigInteger.TWO.pow(31));
        return seed.divide(BigInteger.valueOf(65536)).mod(BigInteger.valueOf(n)).intValueExact();
    }

    int drift(int q, int n) {
        int refused = daysRefused(q, n);
        if (refused != 0) return refused;
        remember();
        for (int i = 0; i < n; i++) {
            if (now.outcome != 0) break;
            if (draw(100) < now.odds) {
                now.outcome = 1;
            } else {
                if (draw(6) == 0) raise(5);
                pass(now, q);
                if (now.men() == 0) now.outcome = 2;
            }
        }
        return now.outcome;
    }

    int undo() {
        if (undoable.isEmpty()) return NOT;
        now = undoable.removeLast();
        return undoable.size();
    }

    private static long price(long cost, long hunger) {
        return cost * (10 + 3 * hunger) / 10;
    }

    int costs(int g) {
        if (out(g, 0, all('g').size() - 1)) return UNKNOWN;
        return (int) price(all('g').get(g)[1], now.hunger);
    }

    int promise(int m, int n) {
        if (out(m, 0, all('m').size() - 1)) return UNKNOWN;
        if (out(n, 0, 60)) return OUTSIDE;
        long left = 1000000;
        for (int i = 0; i < n; i++) left = left * (100 - now.odds) / 100;
        return (int) (all('m').get(m)[2] * (1000000 - left) / 1000);
    }

    private void rows(int n, List<Integer> row, State s, List<Object[]> ends) {
        if (row.size() == n) {
            ends.add(new Object[] {s.men(), s.food, List.copyOf(row)});
            return;
        }
        for (int q = 0; q < 4; q++) {
            State next = s.copy();
            pass(next, q);
            row.add(q);
            rows(n, row, next, ends);
            row.remove(row.size() - 1);
        }
    }

    int rations(int n, int i) {
        if (out(n, 1, 5)) return OUTSIDE;
        if (!stands()) return NOT;
        List<Object[]> ends = new ArrayList<>();
        rows(n, new ArrayList<>(), now.copy(), ends);
        long men = ends.stream().mapToLong(e -> (Long) e[0]).max().getAsLong();
        long food = ends.stream().filter(e -> (Long) e[0] == men).mapToLong(e -> (Long) e[1]).max().getAsLong();
        Object[] best = ends.stream().filter(e -> (Long) e[0] == men && (Long) e[1] == food)
            .min((a, b) -> a[2].toString().compareTo(b[2].toString())).get();
        if (i == NONE) return (int) men;
        return out(i, 0, n - 1) ? NONE : (Integer) ((List<?>) best[2]).get(i);
    }

    int firstToDesert(int q) {
        if (out(q, 0, 3)) return OUTSIDE;
        if (!stands()) return NOT;
        State s = now.copy();
        for (int d = 1; d <= 60; d++) {
            boolean[] deserts = pass(s, q);
            for (int c = 0; c < 5; c++) if (deserts[c]) return c;
        }
        return NONE;
    }

    int holds(int q) {
        if (out(q, 0, 3)) return OUTSIDE;
        if (!stands()) return NOT;
        State s = now.copy();
        for (int d = 0; d < 60; d++) {
            if (s.men() == 0) return d;
            pass(s, q);
        }
        return 60;
    }

    private long debt(int c, int reading) {
        long sum = now.companies.get(c)[2];
        for (long[] p : now.payments) {
            if (p[0] == c) {
                int[] m = all('m').get((int) p[1]);
                sum += p[2] * (reading == 0 ? m[2] : reading == 1 ? m[3] : 1);
            }
        }
        return sum;
    }

    int owed(int c, int reading) {
        if (out(c, 0, all('c').size() - 1)) return UNKNOWN;
        if (out(reading, 0, 2)) return OUTSIDE;
        return (int) debt(c, reading);
    }

    int least(int k, int reading) {
        if (out(k, 0, 5) || out(reading, 0, 2)) return OUTSIDE;
        int n = all('c').size();
        long best = Long.MAX_VALUE;
        for (int paid = 0; paid < 1 << n; paid++) {
            long sum = 0;
            int rioters = 0;
            for (int c = 0; c < n; c++) {
                long debt = debt(c, reading);
                if ((paid >> c & 1) == 1) sum += debt;
                else if (debt > 0) rioters++;
            }
            if (rioters <= k) best = Math.min(best, sum);
        }
        return (int) best;
    }

    int bought(int m, int g) {
        int goods = all('g').size();
        if (out(m, 0, all('m').size() - 1) || out(g, -1, goods - 1)) return UNKNOWN;
        int set = 0;
        int[] least = new int[goods];
        Arrays.fill(least, NONE);
        for (int k = 0; k < goods; k++) {
            for (int h = 99; h >= 0; h--) {
                if (price(all('g').get(k)[1], h) == all('m').get(m)[2]) {
                    least[k] = h;
                    set |= 1 << k;
                }
            }
        }
        return g == NONE ? set : least[g];
    }

    int offer(int v, int x) {
        if (out(v, 1, 999) || out(x, 0, 99999999)) return OUTSIDE;
        if (all('m').isEmpty()) return NOT;
        return (long) x > (long) v * promise(0, 9) ? 1 : 0;
    }

    int show(int m, int died, int stamped, int weighs) {
        if (out(m, 0, all('m').size() - 1)) return UNKNOWN;
        if (out(died, 0, 99) || out(stamped, 0, 99) || out(weighs, 0, 99)) return OUTSIDE;
        if (shown.size() == 8) return FULL;
        shown.add(new Square(m, died, stamped, weighs));
        return shown.size();
    }

    private static boolean byDead(Square s) {
        return s.died() != 99 && s.stamped() > s.died();
    }

    int forged() {
        int set = 0;
        for (int i = 0; i < shown.size(); i++) {
            Square s = shown.get(i);
            if (byDead(s) || s.weighs() < all('m').get(s.m())[3]) set += 1 << i;
        }
        return set;
    }

    int weighFirst() {
        long most = 0;
        int kind = NONE;
        for (int m = 0; m < 4; m++) {
            int k = m;
            long count = shown.stream().filter(s -> s.m() == k && !byDead(s)).count();
            if (count > most) {
                most = count;
                kind = m;
            }
        }
        return kind;
    }

    int write(int c, int men) {
        if (out(c, 0, all('c').size() - 1)) return UNKNOWN;
        if (out(men, 0, 99)) return OUTSIDE;
        if (book.size() == 15) return FULL;
        book.add(new Entry(c, men));
        return book.size();
    }

    int tear() {
        int had = shown.size() + book.size();
        shown.clear();
        book.clear();
        return had;
    }

    int judge() {
        for (Entry e : book) {
            if (now.companies.get(e.c())[0] != e.men()) return book.indexOf(e);
        }
        return NONE;
    }

    int seed(int v) {
        if (v < 0) return OUTSIDE;
        int was = seed.intValueExact();
        seed = BigInteger.valueOf(v);
        return was;
    }

    int keep(int i) {
        if (out(i, 0, 1)) return UNKNOWN;
        images[i] = now.copy();
        imageSeeds[i] = seed;
        undoable.clear();
        return 1;
    }

    int goBack(int i) {
        if (out(i, 0, 1)) return UNKNOWN;
        if (images[i] == null) return NOT;
        now = images[i].copy();
        seed = imageSeeds[i];
        undoable.clear();
        return 1;
    }
}
