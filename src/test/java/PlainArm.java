import java.math.BigInteger;
import java.util.ArrayList;
import java.util.HashSet;
import java.util.List;
import java.util.Set;
import java.util.function.IntPredicate;

/**
 * The document once more, for ModelTest: every answer by trying out all that could be, without a thought
 * for time or room, and without a line of BuyersArm's ways.
 */
final class PlainArm {
    static final int UNKNOWN = -1, BAD = -2, LATE = -3, FULL = -4, NONE = -9;

    record Person(int fee) { }

    record Counter(int price) { }

    record Sale(int person, int counter, int ells, int arm) { }

    record Exchange(int from, int to, int x, int y, int c) { }

    record Held(int one, int e, int other, int f, int sign) { }

    record Kept(List<Integer> arms, List<Integer> stocks, List<Sale> sales, int common) { }

    private String text = "";
    private List<Person> people = new ArrayList<>();
    private List<Counter> counters = new ArrayList<>();
    private Set<String> bars = new HashSet<>();
    private List<Integer> arms = new ArrayList<>();
    private List<Integer> stocks = new ArrayList<>();
    private List<Sale> sales = new ArrayList<>();
    private int common = 30;
    private final List<Exchange> exchanges = new ArrayList<>();
    private int[] comers = new int[6];
    private boolean[] keepers = new boolean[6];
    private final List<Held> held = new ArrayList<>();
    private Kept[] kept = new Kept[2];

    private boolean noPerson(int i) {
        return i < 0 || i >= people.size();
    }

    private boolean noCounter(int c) {
        return c < 0 || c >= counters.size();
    }

    private static boolean out(int n, int from, int to) {
        return n < from || n > to;
    }

    int write(int n, long v) {
        if (out(n, 1, 8)) return BAD;
        if (text.length() + n > 72) return FULL;
        StringBuilder bytes = new StringBuilder();
        for (int i = 0; i < n; i++) {
            bytes.insert(0, (char) (v & 255));
            v >>= 8;
        }
        text += bytes;
        return text.length();
    }

    int wipe() {
        int was = text.length();
        text = "";
        return was;
    }

    private static boolean isMarket(String s) {
        int people = 0;
        int counters = 0;
        Set<String> bars = new HashSet<>();
        while (!s.isEmpty()) {
            if (s.matches("(?s)A\\d{4}.*")) {
                if (++people > 6 || s.startsWith("A00")) return false;
                s = s.substring(5);
            } else if (s.matches("(?s)C\\d{6}.*")) {
                if (++counters > 4 || s.startsWith("C00")) return false;
                s = s.substring(7);
            } else if (s.matches("(?s)N\\d{2}.*")) {
                if (s.charAt(1) - '0' >= people || s.charAt(2) - '0' >= counters || !bars.add(s.substring(1, 3))) return false;
                s = s.substring(3);
            } else {
                return false;
            }
        }
        return true;
    }

    // A part that is not at its end can be ended by ones, if at all, or by some two digits.
    private static boolean mayGoOn(String s) {
        String ones = "111111";
        for (int k = 0; k <= 6; k++) {
            if (isMarket(s + ones.substring(0, k))) return true;
        }
        for (int d = 0; d < 100; d++) {
            if (isMarket(s + d % 10) || isMarket(s + d / 10 + d % 10)) return true;
        }
        return false;
    }

    int fault() {
        for (int n = 1; n <= text.length(); n++) {
            if (!mayGoOn(text.substring(0, n))) return n - 1;
        }
        return isMarket(text) ? NONE : text.length();
    }

    int market() {
        if (!isMarket(text)) return LATE;
        people = new ArrayList<>();
        counters = new ArrayList<>();
        bars = new HashSet<>();
        arms = new ArrayList<>();
        stocks = new ArrayList<>();
        sales = new ArrayList<>();
        comers = new int[6];
        keepers = new boolean[6];
        kept = new Kept[2];
        int at = 0;
        while (at < text.length()) {
            char part = text.charAt(at);
            if (part == 'A') {
                arms.add(Integer.parseInt(text.substring(at + 1, at + 3)));
                people.add(new Person(Integer.parseInt(text.substring(at + 3, at + 5))));
                at += 5;
            } else if (part == 'C') {
                counters.add(new Counter(Integer.parseInt(text.substring(at + 1, at + 3))));
                stocks.add(Integer.parseInt(text.substring(at + 3, at + 7)));
                at += 7;
            } else {
                bars.add(text.substring(at + 1, at + 3));
                at += 3;
            }
        }
        return people.size();
    }

    int person(int person, int what) {
        if (noPerson(person)) return UNKNOWN;
        int spent = 0;
        int got = 0;
        for (Sale s : sales) {
            if (s.person == person) {
                spent += s.ells * counters.get(s.counter).price;
                got += s.ells * s.arm;
            }
        }
        int[] all = {arms.get(person), people.get(person).fee, spent, got, comers[person], keepers[person] ? 1 : 0};
        return out(what, 0, 5) ? BAD : all[what];
    }

    int counter(int counter, int what) {
        if (noCounter(counter)) return UNKNOWN;
        int took = 0;
        int ells = 0;
        int lost = 0;
        for (Sale s : sales) {
            if (s.counter == counter) {
                took += s.ells * counters.get(counter).price;
                ells += s.ells;
                lost += s.ells * (s.arm - common);
            }
        }
        int[] all = {counters.get(counter).price, stocks.get(counter), took, ells, lost + 1000000};
        return out(what, 0, 4) ? BAD : all[what];
    }

    private boolean isBarred(int person, int counter) {
        return bars.contains(person + "" + counter);
    }

    int barred(int person, int counter) {
        if (noPerson(person) || noCounter(counter)) return UNKNOWN;
        return isBarred(person, counter) ? 1 : 0;
    }

    int plaster(int person, int arm) {
        if (noPerson(person)) return UNKNOWN;
        return out(arm, 1, 99) ? BAD : arms.set(person, arm);
    }

    int common(int e) {
        if (out(e, 1, 99)) return BAD;
        int was = common;
        common = e;
        return was;
    }

    int buy(int person, int counter, int n) {
        if (noPerson(person) || noCounter(counter)) return UNKNOWN;
        if (out(n, 1, 99)) return BAD;
        int parts = n * arms.get(person);
        if (isBarred(person, counter) || stocks.get(counter) < parts) return LATE;
        if (sales.size() == 12) return FULL;
        sales.add(new Sale(person, counter, n, arms.get(person)));
        stocks.set(counter, stocks.get(counter) - parts);
        return parts;
    }

    int undo() {
        if (sales.isEmpty()) return LATE;
        Sale last = sales.remove(sales.size() - 1);
        stocks.set(last.counter, stocks.get(last.counter) + last.ells * last.arm);
        return sales.size();
    }

    int sale(int i, int what) {
        if (out(what, 0, 3)) return BAD;
        if (out(i, 0, sales.size() - 1)) return NONE;
        Sale s = sales.get(i);
        return new int[] {s.person, s.counter, s.ells, s.ells * s.arm}[what];
    }

    private static long side(long above, long below, boolean upper) {
        long divisor = BigInteger.valueOf(above).gcd(BigInteger.valueOf(below)).longValueExact();
        return (upper ? above : below) / divisor;
    }

    int truly(int person, int counter, boolean upper) {
        if (noPerson(person) || noCounter(counter)) return UNKNOWN;
        return (int) side(counters.get(counter).price, arms.get(person), upper);
    }

    private int[] wantCoins;

    // Every set of people; in each the fewest ells; then the first row of ells in it, least first.
    private int[] want(int counter, int l) {
        int most = Math.min(stocks.get(counter), l + 150);
        int price = counters.get(counter).price;
        int bestCoins = Integer.MAX_VALUE;
        int bestSet = 0;
        int bestElls = 0;
        for (int set = 1; set < 1 << people.size(); set++) {
            int ells = fewestElls(set, counter, l, most);
            if (ells == NONE) continue;
            int coins = ells * price;
            for (int i = 0; i < people.size(); i++) {
                coins += (set >> i & 1) * people.get(i).fee;
            }
            if (coins < bestCoins) {
                bestCoins = coins;
                bestSet = set;
                bestElls = ells;
            }
        }
        if (bestSet == 0) return null;
        wantCoins = new int[] {bestCoins};
        int[] row = new int[6];
        share(bestSet, 0, bestElls, 0, l, most, row, new HashSet<>());
        return row;
    }

    private int fewestElls(int set, int counter, int l, int most) {
        int once = 0;
        for (int i = 0; i < people.size(); i++) {
            if ((set >> i & 1) == 1) {
                if (isBarred(i, counter)) return NONE;
                once += arms.get(i);
            }
        }
        if (once > most) return NONE;
        int[] more = new int[most - once + 1];
        for (int t = 1; t < more.length; t++) {
            more[t] = 1 << 20;
            for (int i = 0; i < people.size(); i++) {
                if ((set >> i & 1) == 1 && arms.get(i) <= t) {
                    more[t] = Math.min(more[t], more[t - arms.get(i)] + 1);
                }
            }
        }
        int best = 1 << 20;
        for (int t = Math.max(0, l - once); t < more.length; t++) {
            best = Math.min(best, more[t]);
        }
        return best == 1 << 20 ? NONE : best + Integer.bitCount(set);
    }

    private boolean share(int set, int i, int ells, int got, int l, int most, int[] row, Set<Long> failed) {
        if (i == people.size()) return ells == 0 && got >= l && got <= most;
        if ((set >> i & 1) == 0) {
            row[i] = 0;
            return share(set, i + 1, ells, got, l, most, row, failed);
        }
        long state = (i * 2000L + ells) * 20000L + got;
        if (failed.contains(state)) return false;
        for (int n = 1; n <= ells && got + n * arms.get(i) <= most; n++) {
            row[i] = n;
            if (share(set, i + 1, ells - n, got + n * arms.get(i), l, most, row, failed)) return true;
        }
        failed.add(state);
        return false;
    }

    int cheapest(int counter, int l) {
        if (noCounter(counter)) return UNKNOWN;
        if (out(l, 1, 999)) return BAD;
        return want(counter, l) == null ? NONE : wantCoins[0];
    }

    int cheapestBy(int counter, int l, int person) {
        if (noCounter(counter) || noPerson(person)) return UNKNOWN;
        if (out(l, 1, 999)) return BAD;
        int[] row = want(counter, l);
        return row == null ? NONE : row[person];
    }

    int exchange(int good, int other, int x, int y, int c) {
        if (out(good, 0, 2) || out(other, 0, 2)) return UNKNOWN;
        if (good == other || out(x, 1, 9) || out(y, 1, 9) || out(c, 1, 99)) return BAD;
        if (exchanges.size() == 8) return FULL;
        exchanges.add(new Exchange(good, other, x, y, c));
        return exchanges.size();
    }

    int unchange() {
        int were = exchanges.size();
        exchanges.clear();
        return were;
    }

    private boolean isRing(List<Integer> row) {
        Set<Integer> goods = new HashSet<>();
        for (int i = 0; i < row.size(); i++) {
            Exchange e = exchanges.get(row.get(i));
            Exchange next = exchanges.get(row.get((i + 1) % row.size()));
            if (e.to != next.from || !goods.add(e.from)) return false;
        }
        return true;
    }

    private long[] gain(List<Integer> row, int arm) {
        long[] gain = {1, 1};
        for (int i : row) {
            Exchange e = exchanges.get(i);
            gain[0] *= e.to == 0 ? e.y : e.y * arm;
            gain[1] *= e.from == 0 ? e.x : e.x * e.c;
        }
        return gain;
    }

    private List<Integer> bestRing(int arm) {
        List<List<Integer>> rows = new ArrayList<>();
        int n = exchanges.size();
        for (int i = 0; i < n * n; i++) {
            rows.add(List.of(i / n, i % n));
        }
        for (int i = 0; i < n * n * n; i++) {
            rows.add(List.of(i / n / n, i / n % n, i % n));
        }
        List<Integer> best = List.of();
        long[] most = {0, 1};
        for (List<Integer> row : rows) {
            if (!isRing(row)) continue;
            long[] g = gain(row, arm);
            if (g[0] * most[1] > most[0] * g[1]) {
                most = g;
                best = row;
            }
        }
        return best;
    }

    long ring(int person, boolean upper) {
        if (noPerson(person)) return UNKNOWN;
        List<Integer> best = bestRing(arms.get(person));
        if (best.isEmpty()) return NONE;
        long[] g = gain(best, arms.get(person));
        return side(g[0], g[1], upper);
    }

    int ringAt(int person, int i) {
        if (noPerson(person)) return UNKNOWN;
        List<Integer> best = bestRing(arms.get(person));
        return out(i, 0, best.size() - 1) ? NONE : best.get(i);
    }

    int come(int person, int n) {
        if (noPerson(person)) return UNKNOWN;
        if (out(n, 0, 9)) return BAD;
        int were = comers[person];
        comers[person] = n;
        return were;
    }

    int earned(int p, int v, int k) {
        if (out(p, 1, 999) || out(v, 1, 99) || out(k, 0, 9)) return BAD;
        int sum = 100000;
        for (int i = 0; i < people.size(); i++) {
            for (int each = 0; each < comers[i]; each++) {
                if (p <= v * arms.get(i)) sum += p - k * arms.get(i);
            }
        }
        return sum;
    }

    private static int firstOf(int from, int to, IntPredicate better) {
        for (int n = from; n <= to; n++) {
            if (better.test(n)) return n;
        }
        return NONE;
    }

    int ask(int v, int k) {
        if (out(v, 1, 99) || out(k, 0, 9)) return BAD;
        int most = 0;
        for (int p = 1; p <= 999; p++) {
            most = Math.max(most, earned(p, v, k));
        }
        int best = most;
        return firstOf(1, 999, p -> earned(p, v, k) == best);
    }

    int keeper(int person, boolean is) {
        if (noPerson(person)) return UNKNOWN;
        int otherwise = keepers[person] == is ? 0 : 1;
        keepers[person] = is;
        return otherwise;
    }

    int losers(int e) {
        if (out(e, 1, 99)) return BAD;
        int lose = 0;
        for (int i = 0; i < people.size(); i++) {
            if (keepers[i] && e > arms.get(i)) lose++;
            if (!keepers[i] && e < arms.get(i)) lose++;
        }
        return lose;
    }

    int fairest() {
        int fewest = 99;
        for (int e = 1; e <= 99; e++) {
            fewest = Math.min(fewest, losers(e));
        }
        int best = fewest;
        return firstOf(1, 99, e -> losers(e) == best);
    }

    // Cut ell by ell: after each ell all lengths that can be left.
    int cut(int l, int set, boolean ells) {
        if (out(l, 1, 999) || out(set, 0, (1 << people.size()) - 1)) return BAD;
        Set<Integer> left = new HashSet<>(Set.of(l));
        int least = l;
        int fewest = 0;
        for (int n = 1; !left.isEmpty(); n++) {
            Set<Integer> next = new HashSet<>();
            for (int rest : left) {
                for (int i = 0; i < people.size(); i++) {
                    if ((set >> i & 1) == 1 && arms.get(i) <= rest) next.add(rest - arms.get(i));
                }
            }
            for (int rest : next) {
                if (rest < least) {
                    least = rest;
                    fewest = n;
                }
            }
            left = next;
        }
        return ells ? fewest : least;
    }

    int when(int person, int counter, int g, int r) {
        if (noPerson(person) || noCounter(counter)) return UNKNOWN;
        if (out(g, 0, 9) || out(r, 0, 9)) return BAD;
        int arm = arms.get(person);
        int price = counters.get(counter).price;
        return firstOf(0, 30, t -> firstOf(0, 30, other ->
            Math.min(99, arm + other * g) * (price + t * r) > Math.min(99, arm + t * g) * (price + other * r)) == NONE);
    }

    int held(int one, int e, int other, int f, int sign) {
        if (out(one, 0, 2) || out(other, 0, 2)) return UNKNOWN;
        if (one == other || out(e, 1, 9) || out(f, 1, 9) || out(sign, -1, 1)) return BAD;
        if (held.size() == 8) return FULL;
        held.add(new Held(one, e, other, f, sign));
        return held.size();
    }

    int unheld() {
        int were = held.size();
        held.clear();
        return were;
    }

    private List<int[]> rows() {
        List<int[]> rows = new ArrayList<>();
        for (int n = 0; n < 8000; n++) {
            int[] row = {n / 400 + 1, n / 20 % 20 + 1, n % 20 + 1};
            boolean fits = true;
            for (Held h : held) {
                fits &= Integer.signum(h.e * row[h.one] - h.f * row[h.other]) == h.sign;
            }
            if (fits) rows.add(row);
        }
        return rows;
    }

    int mayBe() {
        return rows().size();
    }

    int arm(int one, boolean greatest) {
        if (out(one, 0, 2)) return UNKNOWN;
        int best = NONE;
        for (int[] row : rows()) {
            if (best == NONE || (greatest ? row[one] > best : row[one] < best)) best = row[one];
        }
        return best;
    }

    int keep(int slot) {
        if (out(slot, 0, 1)) return UNKNOWN;
        kept[slot] = new Kept(List.copyOf(arms), List.copyOf(stocks), List.copyOf(sales), common);
        return sales.size();
    }

    int again(int slot) {
        if (out(slot, 0, 1)) return UNKNOWN;
        if (kept[slot] == null) return LATE;
        arms = new ArrayList<>(kept[slot].arms);
        stocks = new ArrayList<>(kept[slot].stocks);
        sales = new ArrayList<>(kept[slot].sales);
        common = kept[slot].common;
        return sales.size();
    }

    int count(int what) {
        int[] all = {people.size(), counters.size(), sales.size(), exchanges.size(), held.size(), common, text.length()};
        return out(what, 0, 6) ? BAD : all[what];
    }
}
