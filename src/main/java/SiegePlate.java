/** A besieged town: its food, its soldiers, the squares they are paid in, and what may come of them. */
public final class SiegePlate {
    public static final int NONE = -1, UNKNOWN = -1000000001, OUTSIDE = -1000000002, NOT = -1000000003, FULL = -1000000004;

    private static final int MOST_LETTERS = 240;
    private static final int MOST_COMPANIES = 5;
    private static final int MOST_KINDS = 4;
    private static final int MOST_GOODS = 6;
    private static final int MOST_HORSES = 4;
    private static final int MOST_SHOWN = 8;
    private static final int MOST_ENTRIES = 15;
    private static final int MOST_UNDOABLE = 20;
    private static final int IMAGES = 2;

    private static final int MOST_RATION = 3;
    private static final int ENOUGH = 2;
    private static final int MOST_DAYS_A_CALL = 30;
    private static final int LAST_DAY_TO_CALL = 9000;
    private static final int MOST_DAYS_TRIED = 60;
    private static final int MOST_DAYS_A_ROW = 5;
    private static final int DAYS_OF_AN_OFFER = 9;
    private static final int MOST_HUNGER_OF_PRICES = 99;
    private static final int MOST_ODDS = 99;
    private static final int MILLION = 1000000;

    private static final int BESIEGED = 0;
    private static final int RELIEVED = 1;
    private static final int FALLEN = 2;

    private final Text text = new Text();
    private final Reader reader = new Reader();
    private Town theTown = new Town();
    private Town draft = new Town();
    private final Siege now = new Siege();
    private final Log log = new Log();
    private final Image[] images = new Image[IMAGES];
    private final Trials trials = new Trials();
    private final Shown shown = new Shown();
    private final Book book = new Book();
    private int seedNow = 0;
    private int faultPlace = NONE;

    public SiegePlate() {
        for (int i = 0; i < IMAGES; i++) {
            images[i] = new Image();
        }
    }

    // ---- the town

    public int feed(int letter) {
        if (!isWithin(letter, 0, 255)) {
            return OUTSIDE;
        }
        if (text.length >= MOST_LETTERS) {
            return FULL;
        }
        text.append(letter);
        return text.length;
    }

    public int town() {
        reader.readTown(text, draft);
        text.length = 0;
        faultPlace = reader.place;
        if (reader.fault != Reader.NO_FAULT) {
            return -10 - reader.fault;
        }
        Town old = theTown;
        theTown = draft;
        draft = old;
        beginSiege();
        return theTown.companies;
    }

    private void beginSiege() {
        now.begin(theTown);
        log.clear();
        shown.count = 0;
        book.count = 0;
        for (int i = 0; i < IMAGES; i++) {
            images[i].isKept = false;
        }
    }

    public int fault() {
        return faultPlace;
    }

    public int told(int what) {
        switch (what) {
            case 0: return now.camp.food;
            case 1: return now.odds;
            case 2: return theTown.companies;
            case 3: return theTown.kinds;
            case 4: return theTown.goods;
            case 5: return theTown.horses;
            case 6: return text.length;
            case 7: return now.camp.days;
            case 8: return now.hunger;
            case 9: return now.camp.menOfAll();
            case 10: return now.outcome;
            case 11: return shown.count;
            case 12: return book.count;
            case 13: return log.count;
            case 14: return theTown.stands ? 1 : 0;
            default: return OUTSIDE;
        }
    }

    public int company(int c, int what) {
        if (!isCompany(c)) {
            return UNKNOWN;
        }
        switch (what) {
            case 0: return now.camp.men[c];
            case 1: return theTown.pay[c];
            case 2: return theTown.bears[c];
            case 3: return now.camp.hungryDays[c];
            case 4: return now.words[c];
            default: return OUTSIDE;
        }
    }

    public int money(int m, int what) {
        if (!isMoney(m)) {
            return UNKNOWN;
        }
        switch (what) {
            case 0: return now.squaresLeft[m];
            case 1: return theTown.stamp[m];
            case 2: return theTown.weight[m];
            default: return OUTSIDE;
        }
    }

    // ---- what is done

    public int day(int q, int n) {
        int refusal = refusalOfDays(q, n);
        if (refusal != 0) {
            return refusal;
        }
        log.push(now);
        for (int i = 0; i < n && now.camp.menOfAll() > 0; i++) {
            now.passDay(theTown, q);
        }
        return now.camp.menOfAll();
    }

    public int gun() {
        if (!isBesieged()) {
            return NOT;
        }
        log.push(now);
        now.hearGun();
        return now.odds;
    }

    public int sally(int c, int k) {
        if (!isCompany(c)) {
            return UNKNOWN;
        }
        if (!isWithin(k, 1, 99)) {
            return OUTSIDE;
        }
        if (!isBesieged() || k > now.camp.men[c]) {
            return NOT;
        }
        log.push(now);
        now.camp.men[c] -= k;
        now.raiseOdds(k / 2);
        return now.odds;
    }

    public int relief(boolean is) {
        if (!isBesieged()) {
            return NOT;
        }
        log.push(now);
        now.outcome = is ? RELIEVED : FALLEN;
        return now.camp.days;
    }

    public int drift(int q, int n) {
        int refusal = refusalOfDays(q, n);
        if (refusal != 0) {
            return refusal;
        }
        log.push(now);
        for (int i = 0; i < n && now.outcome == BESIEGED; i++) {
            passDayByDraws(q);
        }
        return now.outcome;
    }

    private void passDayByDraws(int q) {
        if (nextDraw() % 100 < now.odds) {
            now.outcome = RELIEVED;
            return;
        }
        if (nextDraw() % 6 == 0) {
            now.hearGun();
        }
        now.passDay(theTown, q);
        if (now.camp.menOfAll() == 0) {
            now.outcome = FALLEN;
        }
    }

    /** The mask keeps what is left over by 2 to the 31, however the product wraps around. */
    private int nextDraw() {
        seedNow = (seedNow * 1103515245 + 12345) & 0x7fffffff;
        return seedNow / 65536;
    }

    public int undo() {
        if (log.count == 0) {
            return NOT;
        }
        log.popInto(now);
        return log.count;
    }

    private int refusalOfDays(int q, int n) {
        if (!isRation(q) || !isWithin(n, 1, MOST_DAYS_A_CALL)) {
            return OUTSIDE;
        }
        if (!isBesieged()) {
            return NOT;
        }
        return now.camp.days > LAST_DAY_TO_CALL ? FULL : 0;
    }

    // ---- tried

    public int costs(int g) {
        return isGood(g) ? priceAt(theTown.cost[g], now.hunger) : UNKNOWN;
    }

    public int promise(int m, int n) {
        if (!isMoney(m)) {
            return UNKNOWN;
        }
        if (!isWithin(n, 0, MOST_DAYS_TRIED)) {
            return OUTSIDE;
        }
        return worthWithin(m, n);
    }

    /** In thousandths, for a kind of money that there is. */
    private int worthWithin(int m, int n) {
        int left = MILLION;
        for (int i = 0; i < n; i++) {
            left = left * (100 - now.odds) / 100;
        }
        return theTown.stamp[m] * (MILLION - left) / 1000;
    }

    public int rations(int n, int i) {
        if (!isWithin(n, 1, MOST_DAYS_A_ROW)) {
            return OUTSIDE;
        }
        if (!theTown.stands) {
            return NOT;
        }
        if (!isWithin(i, NONE, n - 1)) {
            return NONE;
        }
        trials.tryAllRows(theTown, now.camp, n);
        return i == NONE ? trials.bestMen : Trials.rationOf(trials.bestRow, n, i);
    }

    public int firstToDesert(int q) {
        if (!isRation(q)) {
            return OUTSIDE;
        }
        return theTown.stands ? trials.firstDeserter(theTown, now.camp, q) : NOT;
    }

    public int holds(int q) {
        if (!isRation(q)) {
            return OUTSIDE;
        }
        return theTown.stands ? trials.daysWithMen(theTown, now.camp, q) : NOT;
    }

    public int owed(int c, int reading) {
        if (!isCompany(c)) {
            return UNKNOWN;
        }
        return isReading(reading) ? now.owedTo(theTown, c, reading) : OUTSIDE;
    }

    public int least(int k, int reading) {
        if (!isWithin(k, 0, MOST_COMPANIES) || !isReading(reading)) {
            return OUTSIDE;
        }
        return trials.leastToPay(theTown, now, k, reading);
    }

    public int bought(int m, int g) {
        if (!isMoney(m) || (g != NONE && !isGood(g))) {
            return UNKNOWN;
        }
        if (g != NONE) {
            return leastHungerAt(theTown.cost[g], theTown.stamp[m]);
        }
        int set = 0;
        for (int i = 0; i < theTown.goods; i++) {
            if (leastHungerAt(theTown.cost[i], theTown.stamp[m]) != NONE) {
                set |= 1 << i;
            }
        }
        return set;
    }

    private static int leastHungerAt(int cost, int price) {
        for (int h = 0; h <= MOST_HUNGER_OF_PRICES; h++) {
            if (priceAt(cost, h) == price) {
                return h;
            }
        }
        return NONE;
    }

    private static int priceAt(int cost, int hunger) {
        return cost * (10 + 3 * hunger) / 10;
    }

    public int offer(int v, int x) {
        if (!isWithin(v, 1, 999) || !isWithin(x, 0, 99999999)) {
            return OUTSIDE;
        }
        if (theTown.kinds == 0) {
            return NOT;
        }
        return x > v * worthWithin(0, DAYS_OF_AN_OFFER) ? 1 : 0;
    }

    // ---- squares that are shown

    public int show(int m, int died, int stamped, int weighs) {
        if (!isMoney(m)) {
            return UNKNOWN;
        }
        if (!isWithin(died, 0, 99) || !isWithin(stamped, 0, 99) || !isWithin(weighs, 0, 99)) {
            return OUTSIDE;
        }
        if (shown.count >= MOST_SHOWN) {
            return FULL;
        }
        shown.add(m, died, stamped, weighs);
        return shown.count;
    }

    public int forged() {
        return shown.forgedOnes(theTown);
    }

    public int weighFirst() {
        return shown.kindToWeigh(theTown);
    }

    public int write(int c, int men) {
        if (!isCompany(c)) {
            return UNKNOWN;
        }
        if (!isWithin(men, 0, 99)) {
            return OUTSIDE;
        }
        if (book.count >= MOST_ENTRIES) {
            return FULL;
        }
        book.add(c, men);
        return book.count;
    }

    public int tear() {
        int had = shown.count + book.count;
        shown.count = 0;
        book.count = 0;
        return had;
    }

    public int judge() {
        return book.firstWrong(now.camp);
    }

    // ---- draws, images

    public int seed(int v) {
        if (v < 0) {
            return OUTSIDE;
        }
        int before = seedNow;
        seedNow = v;
        return before;
    }

    public int keep(int i) {
        if (!isWithin(i, 0, IMAGES - 1)) {
            return UNKNOWN;
        }
        images[i].siege.become(now);
        images[i].seed = seedNow;
        images[i].isKept = true;
        log.clear();
        return 1;
    }

    public int goBack(int i) {
        if (!isWithin(i, 0, IMAGES - 1)) {
            return UNKNOWN;
        }
        if (!images[i].isKept) {
            return NOT;
        }
        now.become(images[i].siege);
        seedNow = images[i].seed;
        log.clear();
        return 1;
    }

    // ---- what refusals ask

    private boolean isCompany(int c) {
        return isWithin(c, 0, theTown.companies - 1);
    }

    private boolean isMoney(int m) {
        return isWithin(m, 0, theTown.kinds - 1);
    }

    private boolean isGood(int g) {
        return isWithin(g, 0, theTown.goods - 1);
    }

    private boolean isBesieged() {
        return theTown.stands && now.outcome == BESIEGED;
    }

    private static boolean isRation(int q) {
        return isWithin(q, 0, MOST_RATION);
    }

    private static boolean isReading(int reading) {
        return isWithin(reading, 0, 2);
    }

    private static boolean isWithin(int x, int low, int high) {
        return low <= x && x <= high;
    }

    /** The letters fed since the latest town. */
    private static final class Text {
        final int[] letters = new int[MOST_LETTERS];
        int length = 0;

        void append(int letter) {
            if (length < MOST_LETTERS) {
                letters[length] = letter;
                length++;
            }
        }
    }

    /** What a text tells, none of which a day changes. */
    private static final class Town {
        static final int STORES = 0, COMPANY = 1, MONEY = 2, GOOD = 3, HORSE = 4;

        boolean stands = false;
        int food = 0;
        int odds = 0;
        int companies = 0;
        int kinds = 0;
        int goods = 0;
        int horses = 0;
        final int[] men = new int[MOST_COMPANIES];
        final int[] pay = new int[MOST_COMPANIES];
        final int[] bears = new int[MOST_COMPANIES];
        final int[] squares = new int[MOST_KINDS];
        final int[] stamp = new int[MOST_KINDS];
        final int[] weight = new int[MOST_KINDS];
        final int[] cost = new int[MOST_GOODS];
        final int[] horseDay = new int[MOST_HORSES];
        final int[] horseFood = new int[MOST_HORSES];

        void clear() {
            stands = false;
            food = 0;
            odds = 0;
            companies = 0;
            kinds = 0;
            goods = 0;
            horses = 0;
        }

        boolean hasRoomFor(int clause) {
            switch (clause) {
                case STORES: return !stands;
                case COMPANY: return companies < MOST_COMPANIES;
                case MONEY: return kinds < MOST_KINDS;
                case GOOD: return goods < MOST_GOODS;
                case HORSE: return horses < MOST_HORSES;
                default: return false;
            }
        }

        void add(int clause, int first, int second, int third) {
            if (!hasRoomFor(clause)) {
                return;
            }
            switch (clause) {
                case STORES: addStores(first, second); break;
                case COMPANY: addCompany(first, second, third); break;
                case MONEY: addMoney(first, second, third); break;
                case GOOD: addGood(first); break;
                default: addHorse(first, second); break;
            }
        }

        private void addStores(int stored, int ofAHundred) {
            food = stored;
            odds = ofAHundred;
            stands = true;
        }

        private void addCompany(int soldiers, int paidADay, int hungryDays) {
            men[companies] = soldiers;
            pay[companies] = paidADay;
            bears[companies] = hungryDays;
            companies++;
        }

        private void addMoney(int cut, int stamped, int weighs) {
            squares[kinds] = cut;
            stamp[kinds] = stamped;
            weight[kinds] = weighs;
            kinds++;
        }

        private void addGood(int price) {
            cost[goods] = price;
            goods++;
        }

        private void addHorse(int on, int gives) {
            horseDay[horses] = on;
            horseFood[horses] = gives;
            horses++;
        }

        int foodOfHorses(int on) {
            int sum = 0;
            for (int i = 0; i < horses; i++) {
                if (horseDay[i] == on) {
                    sum += horseFood[i];
                }
            }
            return sum;
        }
    }

    /** Reads a text into a town, as far as its first fault. */
    private static final class Reader {
        static final int NO_FAULT = 0, MISPLACED = 1, WRONG_NUMBER = 2, TOO_MANY = 3;

        private static final int NO_CLAUSE = -1;
        private static final int MOST_FIGURES = 3;
        private static final int MOST_NUMBERS = 3;
        private static final int BLANK = ' ';
        private static final int END = ';';

        // a row of MOST_NUMBERS for each clause, in the order of Town's clauses
        private static final int[] NUMBERS = {2, 3, 3, 1, 2};
        private static final int[] LOWEST = {0, 0, 0, 0, 0, 0, 0, 1, 0, 1, 0, 0, 0, 1, 0};
        private static final int[] HIGHEST = {999, 99, 0, 99, 9, 9, 999, 99, 99, 99, 0, 0, 99, 99, 0};

        private final int[] values = new int[MOST_NUMBERS];
        private int at = 0;
        int fault = NO_FAULT;
        int place = NONE;

        void readTown(Text text, Town into) {
            at = 0;
            fault = NO_FAULT;
            place = NONE;
            into.clear();
            skipBlanks(text);
            for (int i = 0; i < MOST_LETTERS && at < text.length && fault == NO_FAULT; i++) {
                readClause(text, into);
                skipBlanks(text);
            }
        }

        private void readClause(Text text, Town into) {
            int clause = clauseOf(text.letters[at]);
            if (clause == NO_CLAUSE || (!into.stands && clause != Town.STORES)) {
                setFault(MISPLACED, at);
                return;
            }
            if (!into.hasRoomFor(clause)) {
                setFault(TOO_MANY, at);
                return;
            }
            at++;
            readNumbers(text, clause);
            readEnd(text);
            if (fault == NO_FAULT) {
                into.add(clause, values[0], values[1], values[2]);
            }
        }

        private void readNumbers(Text text, int clause) {
            for (int i = 0; i < NUMBERS[clause] && fault == NO_FAULT; i++) {
                int bounds = clause * MOST_NUMBERS + i;
                values[i] = readNumber(text, LOWEST[bounds], HIGHEST[bounds]);
            }
        }

        private int readNumber(Text text, int low, int high) {
            skipBlanks(text);
            int start = at;
            int value = 0;
            while (at < text.length && isFigure(text.letters[at])) {
                if (at - start < MOST_FIGURES) {
                    value = value * 10 + text.letters[at] - '0';
                }
                at++;
            }
            if (at == start) {
                setFault(MISPLACED, at);
            } else if (at - start > MOST_FIGURES || !isWithin(value, low, high)) {
                setFault(WRONG_NUMBER, start);
            }
            return value;
        }

        private void readEnd(Text text) {
            skipBlanks(text);
            if (at < text.length && text.letters[at] == END) {
                at++;
            } else {
                setFault(MISPLACED, at);
            }
        }

        private void skipBlanks(Text text) {
            while (at < text.length && text.letters[at] == BLANK) {
                at++;
            }
        }

        /** Only the first fault counts. */
        private void setFault(int number, int where) {
            if (fault == NO_FAULT) {
                fault = number;
                place = where;
            }
        }

        private static boolean isFigure(int letter) {
            return isWithin(letter, '0', '9');
        }

        private static int clauseOf(int letter) {
            switch (letter) {
                case 't': return Town.STORES;
                case 'c': return Town.COMPANY;
                case 'm': return Town.MONEY;
                case 'g': return Town.GOOD;
                case 'h': return Town.HORSE;
                default: return NO_CLAUSE;
            }
        }
    }

    /** What eating changes: all that the rations of days to come depend on. */
    private static final class Camp {
        int food = 0;
        int days = 0;
        final int[] men = new int[MOST_COMPANIES];
        final int[] hungryDays = new int[MOST_COMPANIES];
        // of the latest day alone
        boolean wasHungry = false;
        int deserted = NONE;

        void begin(Town town) {
            food = town.food;
            days = 0;
            for (int c = 0; c < MOST_COMPANIES; c++) {
                men[c] = c < town.companies ? town.men[c] : 0;
                hungryDays[c] = 0;
            }
        }

        void become(Camp other) {
            food = other.food;
            days = other.days;
            for (int c = 0; c < MOST_COMPANIES; c++) {
                men[c] = other.men[c];
                hungryDays[c] = other.hungryDays[c];
            }
        }

        int menOfAll() {
            int sum = 0;
            for (int c = 0; c < MOST_COMPANIES; c++) {
                sum += men[c];
            }
            return sum;
        }

        void eatADay(Town town, int ration) {
            food += town.foodOfHorses(days);
            wasHungry = false;
            deserted = NONE;
            for (int c = 0; c < town.companies; c++) {
                if (isFed(c, ration)) {
                    hungryDays[c] = 0;
                } else {
                    starve(c, town.bears[c]);
                }
            }
            days++;
        }

        /** A company that the food does not suffice for takes none of it. */
        private boolean isFed(int c, int ration) {
            int eaten = ration * men[c];
            if (eaten > food) {
                return false;
            }
            food -= eaten;
            return ration >= ENOUGH;
        }

        private void starve(int c, int bears) {
            hungryDays[c]++;
            if (men[c] == 0) {
                return;
            }
            wasHungry = true;
            if (hungryDays[c] > bears) {
                men[c] -= Math.min(men[c], men[c] / 5 + 1);
                if (deserted == NONE) {
                    deserted = c;
                }
            }
        }
    }

    /** All that days, guns, sallies and relief change. */
    private static final class Siege {
        final Camp camp = new Camp();
        int odds = 0;
        int hunger = 0;
        int outcome = BESIEGED;
        final int[] squaresLeft = new int[MOST_KINDS];
        final int[] words = new int[MOST_COMPANIES];
        // a row of MOST_KINDS for each company
        final int[] paid = new int[MOST_COMPANIES * MOST_KINDS];

        void begin(Town town) {
            camp.begin(town);
            odds = town.odds;
            hunger = 0;
            outcome = BESIEGED;
            for (int m = 0; m < MOST_KINDS; m++) {
                squaresLeft[m] = m < town.kinds ? town.squares[m] : 0;
            }
            for (int c = 0; c < MOST_COMPANIES; c++) {
                words[c] = 0;
            }
            for (int i = 0; i < MOST_COMPANIES * MOST_KINDS; i++) {
                paid[i] = 0;
            }
        }

        void become(Siege other) {
            camp.become(other.camp);
            odds = other.odds;
            hunger = other.hunger;
            outcome = other.outcome;
            for (int m = 0; m < MOST_KINDS; m++) {
                squaresLeft[m] = other.squaresLeft[m];
            }
            for (int c = 0; c < MOST_COMPANIES; c++) {
                words[c] = other.words[c];
            }
            for (int i = 0; i < MOST_COMPANIES * MOST_KINDS; i++) {
                paid[i] = other.paid[i];
            }
        }

        void passDay(Town town, int ration) {
            camp.eatADay(town, ration);
            for (int c = 0; c < town.companies; c++) {
                payCompany(c, camp.men[c] * town.pay[c], town.kinds);
            }
            hunger = camp.wasHungry ? hunger + 1 : Math.max(0, hunger - 1);
        }

        private void payCompany(int c, int due, int kinds) {
            for (int m = 0; m < kinds; m++) {
                if (squaresLeft[m] >= due) {
                    squaresLeft[m] -= due;
                    paid[c * MOST_KINDS + m] += due;
                    return;
                }
            }
            words[c] += due;
        }

        int owedTo(Town town, int c, int reading) {
            int sum = words[c];
            for (int m = 0; m < town.kinds; m++) {
                sum += paid[c * MOST_KINDS + m] * worthOfSquare(town, m, reading);
            }
            return sum;
        }

        private static int worthOfSquare(Town town, int m, int reading) {
            switch (reading) {
                case 0: return town.stamp[m];
                case 1: return town.weight[m];
                default: return 1;
            }
        }

        void hearGun() {
            raiseOdds(5);
        }

        void raiseOdds(int more) {
            odds = Math.min(MOST_ODDS, odds + more);
        }
    }

    /** The sieges ahead of the latest calls; a full one loses its oldest. */
    private static final class Log {
        private final Siege[] sieges = new Siege[MOST_UNDOABLE];
        private int next = 0;
        int count = 0;

        Log() {
            for (int i = 0; i < MOST_UNDOABLE; i++) {
                sieges[i] = new Siege();
            }
        }

        void clear() {
            count = 0;
        }

        void push(Siege siege) {
            sieges[next].become(siege);
            next = (next + 1) % MOST_UNDOABLE;
            count = Math.min(MOST_UNDOABLE, count + 1);
        }

        void popInto(Siege siege) {
            if (count > 0) {
                count--;
                next = (next + MOST_UNDOABLE - 1) % MOST_UNDOABLE;
                siege.become(sieges[next]);
            }
        }
    }

    /** A siege to go on from, with its seed. */
    private static final class Image {
        final Siege siege = new Siege();
        int seed = 0;
        boolean isKept = false;
    }

    /** Days that are tried on camps of its own, so that nothing else changes by them. */
    private static final class Trials {
        private final Camp[] camps = new Camp[MOST_DAYS_A_ROW + 1];
        private final int[] debts = new int[MOST_COMPANIES];
        int bestMen = 0;
        int bestRow = 0;
        private int bestFood = 0;

        Trials() {
            for (int i = 0; i <= MOST_DAYS_A_ROW; i++) {
                camps[i] = new Camp();
            }
        }

        /** A row is a number of base 4, its first day the highest figure: so the lesser row comes first. */
        void tryAllRows(Town town, Camp from, int n) {
            int days = Math.min(n, MOST_DAYS_A_ROW);
            bestMen = NONE;
            camps[0].become(from);
            for (int row = 0; row < (1 << (2 * days)); row++) {
                for (int d = firstDayToTry(row, days); d < days; d++) {
                    camps[d + 1].become(camps[d]);
                    camps[d + 1].eatADay(town, rationOf(row, days, d));
                }
                compareRow(row, camps[days]);
            }
        }

        /** The days ahead of it have the same rations as in the row before, and stand in camps already. */
        private static int firstDayToTry(int row, int days) {
            int d = days - 1;
            while (d > 0 && rationOf(row, days, d) == 0) {
                d--;
            }
            return d;
        }

        private void compareRow(int row, Camp end) {
            int men = end.menOfAll();
            if (men > bestMen || (men == bestMen && end.food > bestFood)) {
                bestMen = men;
                bestFood = end.food;
                bestRow = row;
            }
        }

        static int rationOf(int row, int days, int d) {
            return (row >> (2 * (days - 1 - d))) & MOST_RATION;
        }

        int firstDeserter(Town town, Camp from, int ration) {
            Camp camp = camps[0];
            camp.become(from);
            for (int i = 0; i < MOST_DAYS_TRIED; i++) {
                camp.eatADay(town, ration);
                if (camp.deserted != NONE) {
                    return camp.deserted;
                }
            }
            return NONE;
        }

        int daysWithMen(Town town, Camp from, int ration) {
            Camp camp = camps[0];
            camp.become(from);
            int days = 0;
            while (days < MOST_DAYS_TRIED && camp.menOfAll() > 0) {
                camp.eatADay(town, ration);
                days++;
            }
            return days;
        }

        /** Those who are owed most are left to riot. */
        int leastToPay(Town town, Siege siege, int rioters, int reading) {
            int sum = 0;
            for (int c = 0; c < town.companies; c++) {
                debts[c] = siege.owedTo(town, c, reading);
                sum += debts[c];
            }
            for (int i = 0; i < rioters; i++) {
                sum -= strikeGreatestDebt(town.companies);
            }
            return sum;
        }

        private int strikeGreatestDebt(int companies) {
            int greatest = 0;
            for (int c = 1; c < companies; c++) {
                if (debts[c] > debts[greatest]) {
                    greatest = c;
                }
            }
            int debt = companies > 0 ? debts[greatest] : 0;
            debts[greatest] = 0;
            return debt;
        }
    }

    /** The squares that are shown. */
    private static final class Shown {
        private final int[] kind = new int[MOST_SHOWN];
        private final int[] died = new int[MOST_SHOWN];
        private final int[] stamped = new int[MOST_SHOWN];
        private final int[] weighs = new int[MOST_SHOWN];
        private final int[] toWeigh = new int[MOST_KINDS];
        int count = 0;

        void add(int m, int diedOn, int stampedOn, int itsWeight) {
            if (count < MOST_SHOWN) {
                kind[count] = m;
                died[count] = diedOn;
                stamped[count] = stampedOn;
                weighs[count] = itsWeight;
                count++;
            }
        }

        int forgedOnes(Town town) {
            int set = 0;
            for (int i = 0; i < count; i++) {
                if (bearsStampOfDead(i) || weighs[i] < town.weight[kind[i]]) {
                    set |= 1 << i;
                }
            }
            return set;
        }

        int kindToWeigh(Town town) {
            for (int m = 0; m < MOST_KINDS; m++) {
                toWeigh[m] = 0;
            }
            for (int i = 0; i < count; i++) {
                if (!bearsStampOfDead(i)) {
                    toWeigh[kind[i]]++;
                }
            }
            int most = NONE;
            for (int m = 0; m < town.kinds; m++) {
                if (toWeigh[m] > (most == NONE ? 0 : toWeigh[most])) {
                    most = m;
                }
            }
            return most;
        }

        /** A man who lives has died on day 99, and no square is stamped behind that day. */
        private boolean bearsStampOfDead(int i) {
            return stamped[i] > died[i];
        }
    }

    /** How many men companies are said to have. */
    private static final class Book {
        private final int[] companies = new int[MOST_ENTRIES];
        private final int[] men = new int[MOST_ENTRIES];
        int count = 0;

        void add(int c, int said) {
            if (count < MOST_ENTRIES) {
                companies[count] = c;
                men[count] = said;
                count++;
            }
        }

        int firstWrong(Camp camp) {
            for (int i = 0; i < count; i++) {
                if (camp.men[companies[i]] != men[i]) {
                    return i;
                }
            }
            return NONE;
        }
    }
}
