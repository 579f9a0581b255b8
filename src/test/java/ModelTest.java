import java.util.Random;

/** Runs of mixed calls, answered by BuyersArm and by PlainArm alike. The seeds are fixed. */
public final class ModelTest {
    private static final int RUNS = 600;
    private static final int CALLS_OF_AN_OBJECT = 512;
    // What a market that is told byte by byte takes.
    private static final int MOST_AT_ONCE = 120;
    private static final int[] FAR = {Integer.MIN_VALUE, Integer.MIN_VALUE + 1, -1000, -2, -1, 0, 1, 7, 8, 31, 32, 33, 63, 64, 99, 100,
        999, 1000, 1 << 30, Integer.MAX_VALUE - 1, Integer.MAX_VALUE};

    private final Check check;
    private final Random random;
    private final BuyersArm x = new BuyersArm();
    private final PlainArm plain = new PlainArm();
    private final boolean smallArms;
    private int people;
    private int counters;
    private int calls;

    private ModelTest(Check check, int seed) {
        this.check = check;
        this.random = new Random(seed);
        this.smallArms = seed % 2 == 0;
    }

    public static void main(String[] args) {
        Check check = new Check();
        for (int seed = 0; seed < RUNS; seed++) {
            new ModelTest(check, seed).run(seed);
        }
        check.end();
    }

    private void run(int seed) {
        while (calls + MOST_AT_ONCE <= CALLS_OF_AN_OBJECT) {
            if (calls == 0 || random.nextInt(60) == 0) {
                tellMarket(seed);
            } else {
                oneCall(seed);
            }
        }
    }

    private void due(int seed, String call, long got, long want) {
        calls++;
        check.due("seed " + seed + ": " + call, got, want);
    }

    // Now and then far off, else from lo to hi or one beyond.
    private int some(int lo, int hi) {
        int die = random.nextInt(40);
        if (die == 0) return FAR[random.nextInt(FAR.length)];
        if (die == 1) return lo - 1;
        if (die == 2) return hi + 1;
        return lo + random.nextInt(Math.max(1, hi - lo + 1));
    }

    private int somePerson() {
        return some(0, people - 1);
    }

    private int someCounter() {
        return some(0, counters - 1);
    }

    private int someArm() {
        return smallArms ? 1 + random.nextInt(15) : 1 + random.nextInt(99);
    }

    private String marketText() {
        StringBuilder text = new StringBuilder();
        int parts = random.nextInt(16);
        int persons = 0;
        int desks = 0;
        for (int i = 0; i < parts; i++) {
            int die = random.nextInt(5);
            if (die < 2) {
                text.append(String.format("A%02d%02d", someArm(), random.nextBoolean() ? random.nextInt(4) : random.nextInt(100)));
                persons++;
            } else if (die < 4) {
                int price = random.nextBoolean() ? 1 + random.nextInt(5) : 1 + random.nextInt(99);
                text.append(String.format("C%02d%04d", price, random.nextInt(random.nextBoolean() ? 90 : 10000)));
                desks++;
            } else {
                text.append('N').append(random.nextInt(Math.min(10, persons + 1))).append(random.nextInt(desks + 1));
            }
        }
        if (random.nextInt(3) == 0 && text.length() > 0) {
            String signs = "ACN0123456789acn:/ " + (char) 0 + (char) 255 + (char) 193;
            text.setCharAt(random.nextInt(text.length()), signs.charAt(random.nextInt(signs.length())));
        }
        if (random.nextInt(4) == 0) {
            text.setLength(random.nextInt(text.length() + 1));
        }
        return text.toString();
    }

    private void tellMarket(int seed) {
        due(seed, "wipe", x.wipe(), plain.wipe());
        String text = marketText();
        for (int from = 0; from < text.length(); ) {
            int n = Math.min(1 + random.nextInt(8), text.length() - from);
            long v = random.nextLong() << (8 * n - 1) << 1 | Check.packed(text.substring(from, from + n));
            due(seed, "write(" + n + ", " + v + ")", x.write(n, v), plain.write(n, v));
            from += n;
        }
        due(seed, "fault of " + text, x.fault(), plain.fault());
        due(seed, "market of " + text, x.market(), plain.market());
        people = plain.count(0);
        counters = plain.count(1);
    }

    private void oneCall(int seed) {
        int die = random.nextInt(35);
        if (die < 12) {
            market(seed, die);
        } else if (die < 22) {
            wantsAndRings(seed, die);
        } else {
            others(seed, die);
        }
    }

    private void market(int seed, int die) {
        int i = somePerson();
        int c = someCounter();
        int what = some(0, 5);
        int n = random.nextBoolean() ? some(1, 9) : some(1, 99);
        boolean side = random.nextBoolean();
        switch (die) {
            case 0 -> due(seed, "person " + i + " " + what, x.person(i, what), plain.person(i, what));
            case 1 -> due(seed, "counter " + c + " " + what, x.counter(c, what), plain.counter(c, what));
            case 2 -> due(seed, "barred " + i + " " + c, x.barred(i, c), plain.barred(i, c));
            case 3 -> {
                int arm = random.nextInt(9) == 0 ? some(1, 99) : someArm();
                due(seed, "plaster " + i + " " + arm, x.plaster(i, arm), plain.plaster(i, arm));
            }
            case 4 -> due(seed, "common " + n, x.common(n), plain.common(n));
            case 5, 6, 7 -> due(seed, "buy " + i + " " + c + " " + n, x.buy(i, c, n), plain.buy(i, c, n));
            case 8 -> due(seed, "undo", x.undo(), plain.undo());
            case 9 -> {
                int row = some(0, 11);
                due(seed, "sale " + row + " " + what, x.sale(row, what), plain.sale(row, what));
            }
            case 10 -> due(seed, "truly " + i + " " + c + " " + side, x.truly(i, c, side), plain.truly(i, c, side));
            default -> {
                int slot = some(0, 1);
                if (side) {
                    due(seed, "keep " + slot, x.keep(slot), plain.keep(slot));
                } else {
                    due(seed, "again " + slot, x.again(slot), plain.again(slot));
                }
            }
        }
    }

    private void wantsAndRings(int seed, int die) {
        int i = somePerson();
        int c = someCounter();
        int l = random.nextInt(12) == 0 ? some(1, 999) : some(1, 120);
        boolean side = random.nextBoolean();
        switch (die) {
            case 12, 13 -> due(seed, "cheapest " + c + " " + l, x.cheapest(c, l), plain.cheapest(c, l));
            case 14 -> {
                for (int each = -1; each <= people; each++) {
                    due(seed, "cheapestBy " + c + " " + l + " " + each, x.cheapestBy(c, l, each), plain.cheapestBy(c, l, each));
                }
            }
            case 15, 16, 17 -> {
                int good = some(0, 2);
                int other = some(0, 2);
                int a = random.nextBoolean() ? some(1, 2) : some(1, 9);
                int b = random.nextBoolean() ? some(1, 2) : some(1, 9);
                int arm = some(1, smallArms ? 3 : 99);
                due(seed, "exchange " + good + " " + other + " " + a + " " + b + " " + arm,
                    x.exchange(good, other, a, b, arm), plain.exchange(good, other, a, b, arm));
            }
            case 18 -> {
                if (random.nextInt(5) == 0) {
                    due(seed, "unchange", x.unchange(), plain.unchange());
                }
            }
            case 19 -> due(seed, "ring " + i + " " + side, x.ring(i, side), plain.ring(i, side));
            default -> {
                int at = some(0, 2);
                due(seed, "ringAt " + i + " " + at, x.ringAt(i, at), plain.ringAt(i, at));
            }
        }
    }

    private void others(int seed, int die) {
        int i = somePerson();
        int c = someCounter();
        int v = random.nextBoolean() ? some(1, 9) : some(1, 99);
        int k = some(0, 9);
        boolean side = random.nextBoolean();
        switch (die) {
            case 22 -> due(seed, "come " + i + " " + k, x.come(i, k), plain.come(i, k));
            case 23 -> {
                int p = some(1, 999);
                due(seed, "earned " + p + " " + v + " " + k, x.earned(p, v, k), plain.earned(p, v, k));
            }
            case 24 -> due(seed, "ask " + v + " " + k, x.ask(v, k), plain.ask(v, k));
            case 25 -> due(seed, "keeper " + i + " " + side, x.keeper(i, side), plain.keeper(i, side));
            case 26 -> due(seed, "losers " + v, x.losers(v), plain.losers(v));
            case 27 -> due(seed, "fairest", x.fairest(), plain.fairest());
            case 28 -> {
                int l = random.nextInt(5) == 0 ? some(1, 999) : some(1, 200);
                int set = some(0, (1 << people) - 1);
                due(seed, "cut " + l + " " + set + " " + side, x.cut(l, set, side), plain.cut(l, set, side));
            }
            case 29 -> {
                int g = some(0, 9);
                due(seed, "when " + i + " " + c + " " + g + " " + k, x.when(i, c, g, k), plain.when(i, c, g, k));
            }
            case 30, 31 -> {
                int one = some(0, 2);
                int other = some(0, 2);
                int e = some(1, 9);
                int sign = some(-1, 1);
                due(seed, "held " + one + " " + e + " " + other + " " + k + " " + sign,
                    x.held(one, e, other, k, sign), plain.held(one, e, other, k, sign));
            }
            case 32 -> {
                due(seed, "mayBe", x.mayBe(), plain.mayBe());
                if (random.nextInt(8) == 0) {
                    due(seed, "unheld", x.unheld(), plain.unheld());
                }
            }
            case 33 -> {
                int one = some(0, 2);
                due(seed, "arm " + one + " " + side, x.arm(one, side), plain.arm(one, side));
            }
            default -> {
                int what = some(0, 6);
                due(seed, "count " + what, x.count(what), plain.count(what));
            }
        }
    }
}
