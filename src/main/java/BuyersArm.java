import java.util.Arrays;

/** Cloth sold by the ell, where an ell is as long as the arm of whoever buys. */
public final class BuyersArm {
    public static final int UNKNOWN = -1, BAD = -2, LATE = -3, FULL = -4, NONE = -9;

    private static final int MOST_SIGNS = 72;
    private static final int MOST_PEOPLE = 6;
    private static final int MOST_COUNTERS = 4;
    private static final int MOST_SALES = 12;
    private static final int MOST_EXCHANGES = 8;
    private static final int MOST_HELD = 8;
    private static final int GOODS = 3;
    private static final int COINS = 0;
    private static final int SLOTS = 2;
    private static final int LONGEST_ARM = 99;
    private static final int FIRST_COMMON_ELL = 30;
    private static final int MOST_PARTS = 999;
    private static final int MOST_ASKED = 999;
    private static final int LAST_YEAR = 30;
    private static final int HIDDEN_ARMS = 3;
    private static final int LONGEST_HIDDEN = 20;
    private static final int ALL_HIDDEN = (1 << LONGEST_HIDDEN) - 1;
    // What may be below nothing is told with so much more, to stay apart from refusals.
    private static final int LOST_FROM = 1000000;
    private static final int EARNED_FROM = 100000;
    // Above every sum that a row can hold, and far enough below the int's end to be added to.
    private static final int NEVER = 1000000000;

    private final Signs signs = new Signs();
    private final Reader reader = new Reader();
    private Told told = new Told();
    private Told draft = new Told();
    private final Stand stand = new Stand();
    private final Stand[] slots = {new Stand(), new Stand()};
    private final Want want = new Want();
    private final Exchanges exchanges = new Exchanges();
    private final Piece piece = new Piece();
    private final Hidden hidden = new Hidden();

    public BuyersArm() {
    }

    // ---- the market

    public int write(int n, long v) {
        if (!within(n, 1, 8)) {
            return BAD;
        }
        if (signs.length + n > MOST_SIGNS) {
            return FULL;
        }
        signs.append(n, v);
        return signs.length;
    }

    public int wipe() {
        int was = signs.length;
        signs.length = 0;
        return was;
    }

    public int fault() {
        return reader.read(signs, draft);
    }

    public int market() {
        if (reader.read(signs, draft) != NONE) {
            return LATE;
        }
        Told before = told;
        told = draft;
        draft = before;
        stand.begin(told);
        for (int slot = 0; slot < SLOTS; slot++) {
            slots[slot].isKept = false;
        }
        return told.people;
    }

    public int person(int person, int what) {
        if (!told.hasPerson(person)) {
            return UNKNOWN;
        }
        switch (what) {
            case 0: return stand.arms[person];
            case 1: return told.fees[person];
            case 2: return spentBy(person);
            case 3: return gotBy(person);
            case 4: return told.comers[person];
            case 5: return told.isKeeper(person) ? 1 : 0;
            default: return BAD;
        }
    }

    public int counter(int counter, int what) {
        if (!told.hasCounter(counter)) {
            return UNKNOWN;
        }
        switch (what) {
            case 0: return told.prices[counter];
            case 1: return stand.stocks[counter];
            case 2: return stand.ellsSoldAt(counter) * told.prices[counter];
            case 3: return stand.ellsSoldAt(counter);
            case 4: return stand.lostAt(counter) + LOST_FROM;
            default: return BAD;
        }
    }

    public int barred(int person, int counter) {
        if (!told.hasPerson(person) || !told.hasCounter(counter)) {
            return UNKNOWN;
        }
        return told.bars(person, counter) ? 1 : 0;
    }

    public int plaster(int person, int arm) {
        if (!told.hasPerson(person)) {
            return UNKNOWN;
        }
        if (!within(arm, 1, LONGEST_ARM)) {
            return BAD;
        }
        int was = stand.arms[person];
        stand.arms[person] = arm;
        return was;
    }

    public int common(int e) {
        if (!within(e, 1, LONGEST_ARM)) {
            return BAD;
        }
        int was = stand.commonEll;
        stand.commonEll = e;
        return was;
    }

    // ---- sales

    public int buy(int person, int counter, int n) {
        if (!told.hasPerson(person) || !told.hasCounter(counter)) {
            return UNKNOWN;
        }
        if (!within(n, 1, 99)) {
            return BAD;
        }
        int parts = n * stand.arms[person];
        if (told.bars(person, counter) || parts > stand.stocks[counter]) {
            return LATE;
        }
        if (stand.sales >= MOST_SALES) {
            return FULL;
        }
        stand.sell(person, counter, n);
        return parts;
    }

    public int undo() {
        if (stand.sales <= 0) {
            return LATE;
        }
        stand.takeBack();
        return stand.sales;
    }

    public int sale(int i, int what) {
        if (!within(what, 0, 3)) {
            return BAD;
        }
        if (i < 0 || i >= stand.sales) {
            return NONE;
        }
        switch (what) {
            case 0: return stand.buyers[i];
            case 1: return stand.sellers[i];
            case 2: return stand.ells[i];
            default: return stand.parts[i];
        }
    }

    public int truly(int person, int counter, boolean upper) {
        if (!told.hasPerson(person) || !told.hasCounter(counter)) {
            return UNKNOWN;
        }
        return (int) inLeastTerms(told.prices[counter], stand.arms[person], upper);
    }

    // ---- a want

    public int cheapest(int counter, int l) {
        if (!told.hasCounter(counter)) {
            return UNKNOWN;
        }
        if (!within(l, 1, MOST_PARTS)) {
            return BAD;
        }
        return want.reckon(told, stand, counter, l) ? want.coins() : NONE;
    }

    public int cheapestBy(int counter, int l, int person) {
        if (!told.hasCounter(counter) || !told.hasPerson(person)) {
            return UNKNOWN;
        }
        if (!within(l, 1, MOST_PARTS)) {
            return BAD;
        }
        if (!want.reckon(told, stand, counter, l)) {
            return NONE;
        }
        want.shareOut(told, stand, counter, l);
        return want.ells[person];
    }

    // ---- rings

    public int exchange(int good, int other, int x, int y, int c) {
        if (!within(good, 0, GOODS - 1) || !within(other, 0, GOODS - 1)) {
            return UNKNOWN;
        }
        if (good == other || !within(x, 1, 9) || !within(y, 1, 9) || !within(c, 1, LONGEST_ARM)) {
            return BAD;
        }
        if (exchanges.made >= MOST_EXCHANGES) {
            return FULL;
        }
        exchanges.add(good, other, x, y, c);
        return exchanges.made;
    }

    public int unchange() {
        int were = exchanges.made;
        exchanges.made = 0;
        return were;
    }

    public long ring(int person, boolean upper) {
        if (!told.hasPerson(person)) {
            return UNKNOWN;
        }
        exchanges.seekBest(stand.arms[person]);
        if (exchanges.size == 0) {
            return NONE;
        }
        return inLeastTerms(exchanges.behind, exchanges.ahead, upper);
    }

    public int ringAt(int person, int i) {
        if (!told.hasPerson(person)) {
            return UNKNOWN;
        }
        exchanges.seekBest(stand.arms[person]);
        return i >= 0 && i < exchanges.size ? exchanges.best[i] : NONE;
    }

    // ---- asked, shared, cut, grown

    public int come(int person, int n) {
        if (!told.hasPerson(person)) {
            return UNKNOWN;
        }
        if (!within(n, 0, 9)) {
            return BAD;
        }
        int were = told.comers[person];
        told.comers[person] = n;
        return were;
    }

    public int earned(int p, int v, int k) {
        if (!within(p, 1, MOST_ASKED) || !mayValue(v, k)) {
            return BAD;
        }
        return broughtBy(p, v, k) + EARNED_FROM;
    }

    public int ask(int v, int k) {
        if (!mayValue(v, k)) {
            return BAD;
        }
        int best = 1;
        int most = broughtBy(1, v, k);
        for (int p = 2; p <= MOST_ASKED; p++) {
            int brought = broughtBy(p, v, k);
            if (brought > most) {
                most = brought;
                best = p;
            }
        }
        return best;
    }

    public int keeper(int person, boolean is) {
        if (!told.hasPerson(person)) {
            return UNKNOWN;
        }
        if (told.isKeeper(person) == is) {
            return 0;
        }
        told.keepers ^= 1 << person;
        return 1;
    }

    public int losers(int e) {
        return within(e, 1, LONGEST_ARM) ? losersBy(e) : BAD;
    }

    public int fairest() {
        int best = 1;
        int fewest = losersBy(1);
        for (int e = 2; e <= LONGEST_ARM; e++) {
            int lose = losersBy(e);
            if (lose < fewest) {
                fewest = lose;
                best = e;
            }
        }
        return best;
    }

    public int cut(int l, int people, boolean ells) {
        if (!within(l, 1, MOST_PARTS) || !within(people, 0, (1 << told.people) - 1)) {
            return BAD;
        }
        piece.reckon(l, people, stand.arms);
        return ells ? piece.fewest : piece.leftOver;
    }

    public int when(int person, int counter, int g, int r) {
        if (!told.hasPerson(person) || !told.hasCounter(counter)) {
            return UNKNOWN;
        }
        if (!within(g, 0, 9) || !within(r, 0, 9)) {
            return BAD;
        }
        int best = 0;
        int bestArm = stand.arms[person];
        int bestPrice = told.prices[counter];
        for (int year = 1; year <= LAST_YEAR; year++) {
            int grown = Math.min(LONGEST_ARM, stand.arms[person] + year * g);
            int price = told.prices[counter] + year * r;
            if (grown * bestPrice > bestArm * price) {
                best = year;
                bestArm = grown;
                bestPrice = price;
            }
        }
        return best;
    }

    // ---- hidden

    public int held(int one, int e, int other, int f, int sign) {
        if (!within(one, 0, HIDDEN_ARMS - 1) || !within(other, 0, HIDDEN_ARMS - 1)) {
            return UNKNOWN;
        }
        if (one == other || !within(e, 1, 9) || !within(f, 1, 9) || !within(sign, -1, 1)) {
            return BAD;
        }
        if (hidden.times >= MOST_HELD) {
            return FULL;
        }
        // Held the other way round it says the same, so a pair is kept lower arm first.
        if (one < other) {
            hidden.hold(one, e, other, f, sign);
        } else {
            hidden.hold(other, f, one, e, -sign);
        }
        return hidden.times;
    }

    public int unheld() {
        int were = hidden.times;
        hidden.forget();
        return were;
    }

    public int mayBe() {
        hidden.reckon();
        return hidden.rows;
    }

    public int arm(int one, boolean greatest) {
        if (!within(one, 0, HIDDEN_ARMS - 1)) {
            return UNKNOWN;
        }
        hidden.reckon();
        return greatest ? hidden.greatestOf(one) : hidden.leastOf(one);
    }

    // ---- slots

    public int keep(int slot) {
        if (!within(slot, 0, SLOTS - 1)) {
            return UNKNOWN;
        }
        slots[slot].takeFrom(stand);
        slots[slot].isKept = true;
        return stand.sales;
    }

    public int again(int slot) {
        if (!within(slot, 0, SLOTS - 1)) {
            return UNKNOWN;
        }
        if (!slots[slot].isKept) {
            return LATE;
        }
        stand.takeFrom(slots[slot]);
        return stand.sales;
    }

    public int count(int what) {
        switch (what) {
            case 0: return told.people;
            case 1: return told.counters;
            case 2: return stand.sales;
            case 3: return exchanges.made;
            case 4: return hidden.times;
            case 5: return stand.commonEll;
            case 6: return signs.length;
            default: return BAD;
        }
    }

    private static boolean within(int n, int least, int most) {
        return n >= least && n <= most;
    }

    private static boolean mayValue(int v, int k) {
        return within(v, 1, 99) && within(k, 0, 9);
    }

    private static int signOf(int difference) {
        if (difference == 0) {
            return 0;
        }
        return difference < 0 ? -1 : 1;
    }

    private static long inLeastTerms(long above, long below, boolean upper) {
        long divisor = above;
        long rest = below;
        // Euclid's steps on longs are fewer than a hundred.
        for (int step = 0; step < 100 && rest != 0; step++) {
            long next = divisor % rest;
            divisor = rest;
            rest = next;
        }
        long wanted = upper ? above : below;
        return divisor == 0 ? wanted : wanted / divisor;
    }

    private int spentBy(int person) {
        int coins = 0;
        for (int i = 0; i < stand.sales; i++) {
            if (stand.buyers[i] == person) {
                coins += stand.ells[i] * told.prices[stand.sellers[i]];
            }
        }
        return coins;
    }

    private int gotBy(int person) {
        int parts = 0;
        for (int i = 0; i < stand.sales; i++) {
            if (stand.buyers[i] == person) {
                parts += stand.parts[i];
            }
        }
        return parts;
    }

    private int broughtBy(int p, int v, int k) {
        int sum = 0;
        for (int i = 0; i < told.people; i++) {
            if (p <= v * stand.arms[i]) {
                sum += told.comers[i] * (p - k * stand.arms[i]);
            }
        }
        return sum;
    }

    private int losersBy(int e) {
        int lose = 0;
        for (int i = 0; i < told.people; i++) {
            boolean loses = told.isKeeper(i) ? e > stand.arms[i] : e < stand.arms[i];
            if (loses) {
                lose++;
            }
        }
        return lose;
    }

    /** The text: bytes, whatever they say. */
    private static final class Signs {
        final int[] row = new int[MOST_SIGNS];
        int length;

        void append(int n, long v) {
            for (int i = n - 1; i >= 0 && length < MOST_SIGNS; i--) {
                row[length] = (int) (v >>> (8 * i)) & 255;
                length++;
            }
        }
    }

    /** What a text tells, with the comers and keepers, which begin anew with each market. */
    private static final class Told {
        final int[] arms = new int[MOST_PEOPLE];
        final int[] fees = new int[MOST_PEOPLE];
        final int[] comers = new int[MOST_PEOPLE];
        // Bits of the counters at which a person is barred.
        final int[] barsOf = new int[MOST_PEOPLE];
        final int[] prices = new int[MOST_COUNTERS];
        final int[] stocks = new int[MOST_COUNTERS];
        int people;
        int counters;
        int barredPairs;
        int keepers;

        void clear() {
            people = 0;
            counters = 0;
            barredPairs = 0;
            keepers = 0;
            Arrays.fill(comers, 0);
            Arrays.fill(barsOf, 0);
        }

        boolean hasPerson(int i) {
            return i >= 0 && i < people;
        }

        boolean hasCounter(int c) {
            return c >= 0 && c < counters;
        }

        boolean bars(int i, int c) {
            return (barsOf[i] >> c & 1) == 1;
        }

        boolean isKeeper(int i) {
            return (keepers >> i & 1) == 1;
        }
    }

    /** Reads a text sign by sign, and stops at the first behind which no market can come. */
    private static final class Reader {
        private static final int BETWEEN_PARTS = 0;

        // The letter of the part that is being read.
        int part;
        int digits;
        int number;
        int barredPerson;

        int read(Signs signs, Told into) {
            into.clear();
            part = BETWEEN_PARTS;
            for (int place = 0; place < signs.length; place++) {
                if (!takes(signs.row[place], into)) {
                    return place;
                }
            }
            return part == BETWEEN_PARTS ? NONE : signs.length;
        }

        private boolean takes(int sign, Told into) {
            if (part == BETWEEN_PARTS) {
                return opens(sign, into);
            }
            if (sign < '0' || sign > '9') {
                return false;
            }
            int digit = sign - '0';
            digits++;
            if (part == 'A') {
                return takesOfPerson(digit, into);
            }
            return part == 'C' ? takesOfCounter(digit, into) : takesOfBar(digit, into);
        }

        private boolean opens(int sign, Told into) {
            part = sign;
            digits = 0;
            number = 0;
            if (sign == 'A') {
                return into.people < MOST_PEOPLE;
            }
            if (sign == 'C') {
                return into.counters < MOST_COUNTERS;
            }
            // Where every pair is barred already, no bar can be told any more.
            return sign == 'N' && into.barredPairs < into.people * into.counters;
        }

        private boolean takesOfPerson(int digit, Told into) {
            number = number * 10 + digit;
            if (digits == 2) {
                into.arms[into.people] = number;
                boolean isArm = number > 0;
                number = 0;
                return isArm;
            }
            if (digits == 4) {
                into.fees[into.people] = number;
                into.people++;
                part = BETWEEN_PARTS;
            }
            return true;
        }

        private boolean takesOfCounter(int digit, Told into) {
            number = number * 10 + digit;
            if (digits == 2) {
                into.prices[into.counters] = number;
                boolean isPrice = number > 0;
                number = 0;
                return isPrice;
            }
            if (digits == 6) {
                into.stocks[into.counters] = number;
                into.counters++;
                part = BETWEEN_PARTS;
            }
            return true;
        }

        private boolean takesOfBar(int digit, Told into) {
            if (digits == 1) {
                barredPerson = digit;
                return into.hasPerson(digit) && Integer.bitCount(into.barsOf[digit]) < into.counters;
            }
            if (!into.hasCounter(digit) || into.bars(barredPerson, digit)) {
                return false;
            }
            into.barsOf[barredPerson] |= 1 << digit;
            into.barredPairs++;
            part = BETWEEN_PARTS;
            return true;
        }
    }

    /** All that a slot keeps: arms, stocks, sales and the common ell. */
    private static final class Stand {
        final int[] arms = new int[MOST_PEOPLE];
        final int[] stocks = new int[MOST_COUNTERS];
        final int[] buyers = new int[MOST_SALES];
        final int[] sellers = new int[MOST_SALES];
        final int[] ells = new int[MOST_SALES];
        // By the arm of then, which a plaster may have changed since.
        final int[] parts = new int[MOST_SALES];
        int sales;
        int commonEll = FIRST_COMMON_ELL;
        boolean isKept;

        void begin(Told told) {
            System.arraycopy(told.arms, 0, arms, 0, MOST_PEOPLE);
            System.arraycopy(told.stocks, 0, stocks, 0, MOST_COUNTERS);
            sales = 0;
        }

        void takeFrom(Stand other) {
            System.arraycopy(other.arms, 0, arms, 0, MOST_PEOPLE);
            System.arraycopy(other.stocks, 0, stocks, 0, MOST_COUNTERS);
            System.arraycopy(other.buyers, 0, buyers, 0, MOST_SALES);
            System.arraycopy(other.sellers, 0, sellers, 0, MOST_SALES);
            System.arraycopy(other.ells, 0, ells, 0, MOST_SALES);
            System.arraycopy(other.parts, 0, parts, 0, MOST_SALES);
            sales = other.sales;
            commonEll = other.commonEll;
        }

        void sell(int buyer, int seller, int n) {
            buyers[sales] = buyer;
            sellers[sales] = seller;
            ells[sales] = n;
            parts[sales] = n * arms[buyer];
            stocks[seller] -= parts[sales];
            sales++;
        }

        void takeBack() {
            sales--;
            stocks[sellers[sales]] += parts[sales];
        }

        int ellsSoldAt(int seller) {
            int sum = 0;
            for (int i = 0; i < sales; i++) {
                if (sellers[i] == seller) {
                    sum += ells[i];
                }
            }
            return sum;
        }

        int lostAt(int seller) {
            int sum = 0;
            for (int i = 0; i < sales; i++) {
                if (sellers[i] == seller) {
                    sum += parts[i] - ells[i] * commonEll;
                }
            }
            return sum;
        }
    }

    /**
     * The cheapest way to a want. A way weighs SETS times its coins, and the bits of who buys:
     * the lightest way is the cheapest, and of like ones that of the least set.
     */
    private static final class Want {
        private static final int SETS = 1 << MOST_PEOPLE;
        // One ell less would do, if there were as much as an arm too much.
        private static final int MOST_TOTAL = MOST_PARTS + LONGEST_ARM - 1;

        // The lightest way in which people i, i + 1, .. get exactly so many parts.
        final int[][] lightest = new int[MOST_PEOPLE + 1][MOST_TOTAL + 1];
        // The same of one i, where it buys itself.
        final int[] withOne = new int[MOST_TOTAL + 1];
        final int[] ells = new int[MOST_PEOPLE];
        int highest;
        int weight;

        boolean reckon(Told told, Stand stand, int counter, int l) {
            highest = Math.min(stand.stocks[counter], l + LONGEST_ARM - 1);
            Arrays.fill(lightest[told.people], NEVER);
            lightest[told.people][0] = 0;
            for (int i = told.people - 1; i >= 0; i--) {
                if (told.bars(i, counter)) {
                    System.arraycopy(lightest[i + 1], 0, lightest[i], 0, MOST_TOTAL + 1);
                } else {
                    fill(i, stand.arms[i], hire(told, i), told.prices[counter] * SETS);
                }
            }
            weight = NEVER;
            for (int total = l; total <= highest; total++) {
                weight = Math.min(weight, lightest[0][total]);
            }
            return weight < NEVER;
        }

        int coins() {
            return weight / SETS;
        }

        /** Who buys how many ells in the lightest way: person 0 fewest, then person 1, .. */
        void shareOut(Told told, Stand stand, int counter, int l) {
            int rest = weight;
            int low = l;
            int high = highest;
            int ell = told.prices[counter] * SETS;
            for (int i = 0; i < told.people; i++) {
                ells[i] = 0;
                if ((rest >> i & 1) == 1) {
                    rest -= hire(told, i);
                    ells[i] = fewestOf(lightest[i + 1], stand.arms[i], rest, ell, low, high);
                    rest -= ells[i] * ell;
                    low -= ells[i] * stand.arms[i];
                    high -= ells[i] * stand.arms[i];
                }
            }
        }

        private static int hire(Told told, int i) {
            return told.fees[i] * SETS + (1 << i);
        }

        private void fill(int i, int length, int hire, int ell) {
            int[] row = lightest[i];
            int[] without = lightest[i + 1];
            for (int total = 0; total <= highest; total++) {
                int least = NEVER;
                if (total >= length) {
                    int before = total - length;
                    least = Math.min(NEVER, Math.min(without[before] + hire, withOne[before]) + ell);
                }
                withOne[total] = least;
                row[total] = Math.min(without[total], least);
            }
        }

        private static int fewestOf(int[] others, int length, int rest, int ell, int low, int high) {
            // With an arm of this one too much, its last ell would be bought for nothing.
            int enough = Math.min(high, low + length - 1);
            for (int n = 1; n <= MOST_TOTAL && n * length <= enough; n++) {
                int last = Math.min(enough - n * length, MOST_TOTAL);
                for (int total = Math.max(0, low - n * length); total <= last; total++) {
                    if (others[total] == rest - n * ell) {
                        return n;
                    }
                }
            }
            return 0;
        }
    }

    /** The exchanges, and the best ring of them by somebody's arm. */
    private static final class Exchanges {
        final int[] from = new int[MOST_EXCHANGES];
        final int[] to = new int[MOST_EXCHANGES];
        final int[] given = new int[MOST_EXCHANGES];
        final int[] taken = new int[MOST_EXCHANGES];
        final int[] armOfGiven = new int[MOST_EXCHANGES];
        int made;

        final int[] best = new int[GOODS];
        int size;
        long behind;
        long ahead;

        void add(int good, int other, int x, int y, int c) {
            from[made] = good;
            to[made] = other;
            given[made] = x;
            taken[made] = y;
            armOfGiven[made] = c;
            made++;
        }

        // Rings are met in the order in which like ones go ahead: only a greater gain takes over.
        void seekBest(int ownArm) {
            size = 0;
            behind = 0;
            ahead = 1;
            for (int i = 0; i < made; i++) {
                for (int j = 0; j < made; j++) {
                    if (follows(i, j) && follows(j, i)) {
                        offer(2, i, j, j, ownArm);
                    }
                }
            }
            for (int i = 0; i < made; i++) {
                for (int j = 0; j < made; j++) {
                    if (follows(i, j)) {
                        seekThird(i, j, ownArm);
                    }
                }
            }
        }

        // No exchange goes from a good to itself, so no good is twice in three that close.
        private void seekThird(int i, int j, int ownArm) {
            for (int k = 0; k < made; k++) {
                if (follows(j, k) && follows(k, i)) {
                    offer(3, i, j, k, ownArm);
                }
            }
        }

        private boolean follows(int i, int j) {
            return to[i] == from[j];
        }

        private void offer(int length, int i, int j, int k, int ownArm) {
            long up = got(i, ownArm) * got(j, ownArm);
            long down = paid(i) * paid(j);
            if (length == 3) {
                up *= got(k, ownArm);
                down *= paid(k);
            }
            if (up * ahead > behind * down) {
                size = length;
                best[0] = i;
                best[1] = j;
                best[2] = k;
                behind = up;
                ahead = down;
            }
        }

        private long got(int i, int ownArm) {
            return to[i] == COINS ? taken[i] : taken[i] * ownArm;
        }

        private long paid(int i) {
            return from[i] == COINS ? given[i] : given[i] * armOfGiven[i];
        }
    }

    /** A piece cut in ells of some people. */
    private static final class Piece {
        // The fewest ells that are exactly so long.
        final int[] ellsTo = new int[MOST_PARTS + 1];
        int leftOver;
        int fewest;

        void reckon(int l, int people, int[] arms) {
            int longest = 0;
            ellsTo[0] = 0;
            for (int total = 1; total <= l; total++) {
                ellsTo[total] = fewestTo(total, people, arms);
                if (ellsTo[total] < NEVER) {
                    longest = total;
                }
            }
            leftOver = l - longest;
            fewest = ellsTo[longest];
        }

        private int fewestTo(int total, int people, int[] arms) {
            int least = NEVER;
            for (int i = 0; i < MOST_PEOPLE; i++) {
                if ((people >> i & 1) == 1 && arms[i] <= total) {
                    least = Math.min(least, ellsTo[total - arms[i]] + 1);
                }
            }
            return least;
        }
    }

    /** Three hidden arms: for every length of the lower of two, bits of what the other can't be. */
    private static final class Hidden {
        private static final int LOW_MIDDLE = 0;
        private static final int LOW_HIGH = LONGEST_HIDDEN;
        private static final int MIDDLE_HIGH = 2 * LONGEST_HIDDEN;

        final int[] misfits = new int[HIDDEN_ARMS * LONGEST_HIDDEN];
        // Bits of the lengths that each arm has in some row that fits.
        final int[] lengths = new int[HIDDEN_ARMS];
        int times;
        int rows;

        void forget() {
            times = 0;
            Arrays.fill(misfits, 0);
        }

        void hold(int lower, int e, int higher, int f, int sign) {
            // The pairs 0 and 1, 0 and 2, 1 and 2 stand in this order.
            int start = (lower + higher - 1) * LONGEST_HIDDEN;
            for (int i = 0; i < LONGEST_HIDDEN; i++) {
                for (int j = 0; j < LONGEST_HIDDEN; j++) {
                    if (signOf(e * (i + 1) - f * (j + 1)) != sign) {
                        misfits[start + i] |= 1 << j;
                    }
                }
            }
            times++;
        }

        void reckon() {
            rows = 0;
            Arrays.fill(lengths, 0);
            for (int i = 0; i < LONGEST_HIDDEN; i++) {
                for (int j = 0; j < LONGEST_HIDDEN; j++) {
                    int third = ALL_HIDDEN & ~(misfits[LOW_HIGH + i] | misfits[MIDDLE_HIGH + j]);
                    if ((misfits[LOW_MIDDLE + i] >> j & 1) == 0 && third != 0) {
                        rows += Integer.bitCount(third);
                        lengths[0] |= 1 << i;
                        lengths[1] |= 1 << j;
                        lengths[2] |= third;
                    }
                }
            }
        }

        int leastOf(int one) {
            for (int length = 1; length <= LONGEST_HIDDEN; length++) {
                if ((lengths[one] >> (length - 1) & 1) == 1) {
                    return length;
                }
            }
            return NONE;
        }

        int greatestOf(int one) {
            for (int length = LONGEST_HIDDEN; length >= 1; length--) {
                if ((lengths[one] >> (length - 1) & 1) == 1) {
                    return length;
                }
            }
            return NONE;
        }
    }
}
