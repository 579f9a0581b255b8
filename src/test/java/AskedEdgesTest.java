/** The edges of section 5 and of promises 21 to 28: COMERS, TO ASK, KEEPERS, FAIREST, CUT, WHEN. */
public final class AskedEdgesTest {
    private static final String SIX_LONG = "A9900A9900A9900A9900A9900A9900";

    private static final Check check = new Check();

    public static void main(String[] args) {
        howManyCome();
        boundsOfEarned();
        justAsMuchAsItIsWorth();
        greatestAndLeastEarned();
        boundsOfAsk();
        nobodyComes();
        noMoreThan999();
        likeOnesToAsk();
        nothingToEarn();
        keepersAndOthers();
        boundsOfLosers();
        asLongAsTheArm();
        leastFairest();
        boundsOfCut();
        setsOfPeople();
        shortPieces();
        fewestElls();
        growthBounds();
        theLastYear();
        no99IsPassed();
        likeYears();
        refusalsOfWhen();
        check.end();
    }

    private static void howManyCome() {
        check.sentence("of each PERSON so many come (0 .. 9; 0 at first ..): how many there were. UNKNOWN; BAD: n");
        BuyersArm x = Check.with(SIX_LONG);
        int[] bad = {10, -1, 11, -9, Integer.MIN_VALUE, Integer.MAX_VALUE};
        for (int i = 0; i < 6; i++) {
            check.due("at first", x.person(i, 4), 0);
            check.due("nine", x.come(i, 9), 0);
            for (int n : bad) {
                check.due("come " + n, x.come(i, n), BuyersArm.BAD);
            }
            check.due("as it was", x.person(i, 4), 9);
            check.due("none", x.come(i, 0), 9);
            check.due("one of them", x.come(i, i + 1), 0);
        }
        for (int i = 0; i < 6; i++) {
            check.due("each its own", x.person(i, 4), i + 1);
        }
        int[] far = {6, -1, Integer.MIN_VALUE, Integer.MAX_VALUE};
        for (int person : far) {
            check.due("person " + person, x.come(person, 1), BuyersArm.UNKNOWN);
            check.due("UNKNOWN is ahead of BAD", x.come(person, 10), BuyersArm.UNKNOWN);
        }
    }

    private static void boundsOfEarned() {
        check.sentence("BAD: p (1 .. 999), v (1 .. 99), k (0 .. 9)");
        BuyersArm x = Check.with("A1000");
        x.come(0, 1);
        int[][] bad = {{0, 1, 0}, {1000, 1, 0}, {-1, 1, 0}, {1, 0, 0}, {1, 100, 0}, {1, -1, 0}, {1, 1, -1}, {1, 1, 10},
            {Integer.MIN_VALUE, 1, 0}, {Integer.MAX_VALUE, 1, 0}, {1, Integer.MIN_VALUE, 0}, {1, Integer.MAX_VALUE, 0},
            {1, 1, Integer.MIN_VALUE}, {1, 1, Integer.MAX_VALUE}, {0, 0, -1}};
        for (int[] b : bad) {
            check.due("earned " + b[0] + " " + b[1] + " " + b[2], x.earned(b[0], b[1], b[2]), BuyersArm.BAD);
        }
        check.due("p 1, v 1, k 0", x.earned(1, 1, 0), 100001);
        check.due("p 999, v 99", x.earned(990, 99, 0), 100990);
        check.due("p 999, v 99", x.earned(999, 99, 0), 100000);
        check.due("p 1, v 1, k 9", x.earned(1, 1, 9), 100001 - 90);
        check.due("p 999, v 99, k 9", x.earned(999, 99, 9), 100000);
    }

    private static void justAsMuchAsItIsWorth() {
        check.sentence("By an asked price p one buys an ELL, if p is no more than v times its ARM; that brings p less k times its ARM");
        int[][] cases = {{1, 1}, {99, 1}, {1, 99}, {10, 99}, {37, 27}, {12, 34}};
        for (int[] one : cases) {
            BuyersArm x = Check.with(String.format("A%02d00", one[0]));
            x.come(0, 3);
            int worth = one[0] * one[1];
            check.due("as much", x.earned(worth, one[1], 0), 100000 + 3 * worth);
            check.due("as much, with k", x.earned(worth, one[1], 2), 100000 + 3 * (worth - 2 * one[0]));
            if (worth < 999) {
                check.due("one more", x.earned(worth + 1, one[1], 0), 100000);
                check.due("one more, with k", x.earned(worth + 1, one[1], 9), 100000);
            }
        }
    }

    private static void greatestAndLeastEarned() {
        check.sentence("EARNED: what all COMERS bring, and 100000");
        BuyersArm x = Check.with(SIX_LONG);
        check.due("nobody comes", x.earned(999, 99, 0), 100000);
        for (int i = 0; i < 6; i++) {
            x.come(i, 9);
        }
        check.due("the most", x.earned(999, 99, 0), 100000 + 54 * 999);
        check.due("the least", x.earned(1, 1, 9), 100000 + 54 * (1 - 891));
        check.due("nothing", x.earned(891, 9, 9), 100000);
        check.due("no refusal", new BuyersArm().earned(1, 1, 9), 100000);
    }

    private static void boundsOfAsk() {
        check.sentence("TO ASK. BAD: v, k");
        BuyersArm x = Check.with("A1000");
        x.come(0, 1);
        int[][] bad = {{0, 0}, {100, 0}, {-1, 0}, {1, -1}, {1, 10}, {0, 10}, {Integer.MIN_VALUE, 0}, {Integer.MAX_VALUE, 0},
            {1, Integer.MIN_VALUE}, {1, Integer.MAX_VALUE}};
        for (int[] b : bad) {
            check.due("ask " + b[0] + " " + b[1], x.ask(b[0], b[1]), BuyersArm.BAD);
        }
        check.due("v 1, k 0", x.ask(1, 0), 10);
        check.due("v 99, k 0", x.ask(99, 0), 990);
        check.due("v 1, k 9", x.ask(1, 9), 11);
        check.due("v 99, k 9", x.ask(99, 9), 990);
    }

    private static void nobodyComes() {
        check.sentence("of like ones the least: where nobody comes");
        check.due("nobody is there", new BuyersArm().ask(99, 9), 1);
        check.due("nobody comes", Check.with(SIX_LONG).ask(99, 9), 1);
        BuyersArm x = Check.with("A1000");
        x.come(0, 9);
        x.come(0, 0);
        check.due("nobody comes any more", x.ask(5, 0), 1);
    }

    private static void noMoreThan999() {
        check.sentence("the p (1 .. 999) by which most is EARNED");
        BuyersArm x = Check.with("A3700A5000A9900A0100");
        x.come(0, 1);
        check.due("998 is less", x.ask(26, 0), 962);
        check.due("just 999", x.ask(27, 0), 999);
        x.come(0, 0);
        x.come(1, 1);
        check.due("1000 is too much", x.ask(20, 0), 999);
        x.come(2, 9);
        check.due("9801 is too much", x.ask(99, 9), 999);
        x.come(1, 0);
        x.come(2, 0);
        x.come(3, 1);
        check.due("the least of all", x.ask(1, 0), 1);
        check.due("the least at a loss", x.ask(1, 9), 2);
        // 1 of ten is more than 5 of one.
        x = Check.with("A0100A0500");
        x.come(0, 9);
        x.come(1, 1);
        check.due("1, though others earn too", x.ask(1, 0), 1);
        x.plaster(1, 11);
        check.due("11 earns more", x.ask(1, 0), 11);
        x.plaster(1, 10);
        check.due("10 earns as much", x.ask(1, 0), 1);
    }

    private static void likeOnesToAsk() {
        check.sentence("by which most is EARNED; of like ones the least");
        // 60 of four, 120 of two, 240 of one.
        BuyersArm x = Check.with("A8000A4000A2000");
        x.come(0, 1);
        x.come(1, 1);
        x.come(2, 2);
        check.due("like ones", x.ask(3, 0), 60);
        x.come(2, 1);
        check.due("like ones of two", x.ask(3, 0), 120);
        x.come(1, 0);
        check.due("the one", x.ask(3, 0), 240);
        x.come(2, 2);
        check.due("one more is not enough", x.ask(3, 0), 240);
        x.come(2, 3);
        check.due("60 of four is as much", x.ask(3, 0), 60);
    }

    private static void nothingToEarn() {
        check.sentence("TO ASK: where each SALE brings nothing, or less");
        BuyersArm x = Check.with("A4000A0500");
        x.come(0, 1);
        check.due("nothing by 80", x.ask(2, 2), 80);
        check.due("less by all that it pays", x.ask(2, 3), 81);
        check.due("one more than nothing", x.ask(3, 2), 120);
        x.come(1, 9);
        check.due("both at a loss", x.ask(1, 2), 41);
        x.come(0, 0);
        check.due("only the short one", x.ask(1, 2), 6);
    }

    private static void keepersAndOthers() {
        check.sentence("KEEPERS are PEOPLE that sell (none at first): 1 if that is otherwise than it was, 0. UNKNOWN");
        BuyersArm x = Check.with(SIX_LONG);
        for (int i = 0; i < 6; i++) {
            check.due("at first", x.person(i, 5), 0);
            check.due("no keeper still", x.keeper(i, false), 0);
            check.due("a keeper", x.keeper(i, true), 1);
            check.due("told", x.person(i, 5), 1);
            check.due("a keeper still", x.keeper(i, true), 0);
            check.due("told", x.person(i, 5), 1);
        }
        check.due("not any more", x.keeper(3, false), 1);
        for (int i = 0; i < 6; i++) {
            check.due("the others are", x.person(i, 5), i == 3 ? 0 : 1);
        }
        int[] far = {6, -1, 32, 38, -32, Integer.MIN_VALUE, Integer.MAX_VALUE};
        for (int person : far) {
            check.due("person " + person, x.keeper(person, true), BuyersArm.UNKNOWN);
            check.due("person " + person, x.keeper(person, false), BuyersArm.UNKNOWN);
        }
        check.due("3 is none still", x.person(3, 5), 0);
        check.due("0 is one still", x.person(0, 5), 1);
    }

    private static void boundsOfLosers() {
        check.sentence("How many lose by a COMMON ELL. BAD: e (1 .. 99)");
        BuyersArm x = Check.with(SIX_LONG);
        int[] bad = {0, 100, -1, 101, Integer.MIN_VALUE, Integer.MAX_VALUE};
        for (int e : bad) {
            check.due("losers " + e, x.losers(e), BuyersArm.BAD);
        }
        check.due("all", x.losers(1), 6);
        check.due("all", x.losers(98), 6);
        check.due("none", x.losers(99), 0);
        check.due("THE COMMON ELL is as it was", x.count(5), 30);
    }

    private static void asLongAsTheArm() {
        check.sentence("one that buys loses, if e is less than its ARM, one that sells, if it is more");
        BuyersArm x = Check.with("A5000");
        int[] buys = {1, 0, 0};
        int[] sells = {0, 0, 1};
        for (int i = 0; i < 3; i++) {
            check.due("buys, " + (49 + i), x.losers(49 + i), buys[i]);
        }
        x.keeper(0, true);
        for (int i = 0; i < 3; i++) {
            check.due("sells, " + (49 + i), x.losers(49 + i), sells[i]);
        }
        x.plaster(0, 1);
        check.due("the arm of now", x.losers(2), 1);
        check.due("the shortest", x.losers(1), 0);
        x.keeper(0, false);
        check.due("none loses", x.losers(1), 0);
    }

    private static void leastFairest() {
        check.sentence("FAIREST: the e (1 .. 99) by which fewest lose; of like ones the least");
        check.due("nobody", new BuyersArm().fairest(), 1);
        check.due("all buy", Check.with(SIX_LONG).fairest(), 99);
        BuyersArm x = Check.with("A2000A4000");
        check.due("both buy", x.fairest(), 40);
        x.keeper(0, true);
        // By 1 .. 20 the one that buys loses, by 21 .. 39 both, by 40 .. 99 the one that sells.
        check.due("one loses anyway", x.fairest(), 1);
        x.keeper(1, true);
        check.due("both sell", x.fairest(), 1);
        x.keeper(0, false);
        check.due("between is fair", x.fairest(), 20);
        check.due("none loses", x.losers(20), 0);
        check.due("none loses", x.losers(40), 0);
        check.due("one loses", x.losers(19), 1);
        check.due("one loses", x.losers(41), 1);
        x.plaster(0, 99);
        x.plaster(1, 1);
        check.due("the one sells", x.fairest(), 1);
        x.plaster(1, 99);
        check.due("just 99", x.fairest(), 99);
    }

    private static void cut(BuyersArm x, int l, int people, int left, int ells) {
        check.due("left over of " + l + " by " + people, x.cut(l, people, false), left);
        check.due("ells of " + l + " by " + people, x.cut(l, people, true), ells);
    }

    private static void boundsOfCut() {
        check.sentence("a PIECE of L parts (1 .. 999); BAD: l");
        BuyersArm x = Check.with("A0100A9900");
        int[] bad = {0, 1000, -1, 1001, Integer.MIN_VALUE, Integer.MAX_VALUE};
        for (int l : bad) {
            cut(x, l, 1, BuyersArm.BAD, BuyersArm.BAD);
            cut(x, l, 0, BuyersArm.BAD, BuyersArm.BAD);
            cut(x, l, 4, BuyersArm.BAD, BuyersArm.BAD);
        }
        cut(x, 1, 1, 0, 1);
        cut(x, 999, 1, 0, 999);
        cut(x, 999, 2, 9, 10);
        cut(x, 999, 3, 0, 19);
        cut(x, 1, 3, 0, 1);
    }

    private static void setsOfPeople() {
        check.sentence("sets of PEOPLE are told as bits; BAD: .. people (bits of PEOPLE)");
        String[] parts = {"A3200", "A1600", "A0800", "A0400", "A0200", "A0100"};
        String text = "";
        for (int n = 0; n <= 6; n++) {
            BuyersArm x = Check.with(text);
            int all = (1 << n) - 1;
            int[] bad = {all + 1, -1, 64, 128, Integer.MIN_VALUE, Integer.MAX_VALUE, -64};
            for (int people : bad) {
                cut(x, 63, people, BuyersArm.BAD, BuyersArm.BAD);
            }
            cut(x, 63, 0, 63, 0);
            // Of the first n 32, 16, .. once each: what is left is less than the shortest.
            cut(x, 63, all, (1 << 6 - n) - 1, n);
            for (int i = 0; i < n; i++) {
                cut(x, 32, 1 << i, 0, 1 << i);
            }
            text += n < 6 ? parts[n] : "";
        }
    }

    private static void shortPieces() {
        check.sentence("LEFT OVER: the least that can be left");
        BuyersArm x = Check.with("A0700A0900");
        cut(x, 6, 3, 6, 0);
        cut(x, 7, 3, 0, 1);
        cut(x, 8, 3, 1, 1);
        cut(x, 8, 2, 8, 0);
        cut(x, 9, 2, 0, 1);
        cut(x, 13, 3, 4, 1);
        cut(x, 14, 3, 0, 2);
        cut(x, 47, 3, 1, 6);
        cut(x, 48, 3, 0, 6);
    }

    private static void fewestElls() {
        check.sentence("ELLS: the fewest by which no more is left than that");
        // The longest arm first would be 25 and five of one.
        cut(Check.with("A0100A1000A2500"), 30, 7, 0, 3);
        cut(Check.with("A0100A1000A2500"), 35, 7, 0, 2);
        // Two of 9 leave as much as three of 6: the fewest are told.
        cut(Check.with("A0600A0900"), 20, 3, 2, 2);
        cut(Check.with("A0600A0900"), 20, 1, 2, 3);
        cut(Check.with("A0500A0500"), 999, 3, 4, 199);
        BuyersArm x = Check.with("A9900");
        x.plaster(0, 98);
        cut(x, 999, 1, 19, 10);
        check.due("nothing is sold", x.count(2), 0);
    }

    private static void growthBounds() {
        check.sentence("(g, r 0 .. 9); BAD: g, r");
        BuyersArm x = Check.with("A0100C990000");
        int[] bad = {10, -1, 11, Integer.MIN_VALUE, Integer.MAX_VALUE};
        for (int b : bad) {
            check.due("g " + b, x.when(0, 0, b, 0), BuyersArm.BAD);
            check.due("r " + b, x.when(0, 0, 0, b), BuyersArm.BAD);
            check.due("g " + b + ", r 9", x.when(0, 0, b, 9), BuyersArm.BAD);
            check.due("both " + b, x.when(0, 0, b, b), BuyersArm.BAD);
        }
        check.due("g 0, r 0", x.when(0, 0, 0, 0), 0);
        check.due("g 9, r 0", x.when(0, 0, 9, 0), 11);
        check.due("g 0, r 9", x.when(0, 0, 0, 9), 0);
        check.due("g 9, r 9", x.when(0, 0, 9, 9), 11);
    }

    private static void theLastYear() {
        check.sentence("in t years (0 .. 30)");
        check.due("it grows yet", Check.with("A0100C010000").when(0, 0, 1, 0), 30);
        check.due("99 in the last year", Check.with("A6900C010000").when(0, 0, 1, 0), 30);
        check.due("99 in the year before", Check.with("A7000C010000").when(0, 0, 1, 0), 29);
        check.due("99 in a year", Check.with("A9800C010000").when(0, 0, 1, 0), 1);
        check.due("99 now", Check.with("A9900C010000").when(0, 0, 9, 0), 0);
    }

    private static void no99IsPassed() {
        check.sentence("an ARM is t times g more (99 at most), a PRICE t times r more");
        check.due("99 in ten years", Check.with("A0900C010000").when(0, 0, 9, 0), 10);
        check.due("100 would be in ten", Check.with("A1000C010000").when(0, 0, 9, 0), 10);
        check.due("98 in ten, 107 would be in eleven", Check.with("A0800C010000").when(0, 0, 9, 0), 11);
        // 91 by 109 is less than 99 by 110, and 99 by 111 is less again.
        check.due("then it is only dearer", Check.with("A0100C990000").when(0, 0, 9, 1), 11);
        // A price has no such end: 99 and 270 more; 1 by 99 is less than 31 by 369.
        check.due("a price above 99", Check.with("A0100C990000").when(0, 0, 1, 9), 30);
        // 5 by 45 is just 1 by 9, which is what each year adds; 5 by 44 is more than that, 5 by 46 less.
        check.due("as fast", Check.with("A0500C450000").when(0, 0, 1, 9), 0);
        check.due("cheaper now", Check.with("A0500C440000").when(0, 0, 1, 9), 0);
        check.due("cheaper in the end", Check.with("A0500C460000").when(0, 0, 1, 9), 30);
    }

    private static void likeYears() {
        check.sentence("the year in which one gets most parts for a coin; of like ones the first");
        check.due("all alike", Check.with("A1000C100000").when(0, 0, 1, 1), 0);
        check.due("all alike", Check.with("A0100C010000").when(0, 0, 3, 3), 0);
        check.due("neither grows", Check.with("A0100C990000").when(0, 0, 0, 0), 0);
        check.due("alike from the year of 99 on", Check.with("A9000C990000").when(0, 0, 3, 0), 3);
        BuyersArm x = Check.with("A9000C990000");
        x.plaster(0, 96);
        check.due("the arm of now", x.when(0, 0, 3, 0), 1);
        check.due("as it was", x.person(0, 0), 96);
        check.due("as it was", x.counter(0, 0), 99);
    }

    private static void refusalsOfWhen() {
        check.sentence("UNKNOWN: person, counter; BAD: g, r. Of several what is told first");
        BuyersArm x = Check.with("A0100A0100C990000N00");
        int[] far = {2, -1, 6, Integer.MIN_VALUE, Integer.MAX_VALUE};
        for (int f : far) {
            check.due("person " + f, x.when(f, 0, 0, 0), BuyersArm.UNKNOWN);
            check.due("counter " + f, x.when(0, f, 0, 0), BuyersArm.UNKNOWN);
            check.due("person " + f + ", g", x.when(f, 0, 10, 0), BuyersArm.UNKNOWN);
            check.due("counter " + f + ", r", x.when(0, f, 0, -1), BuyersArm.UNKNOWN);
            check.due("all " + f, x.when(f, f, f, 10), BuyersArm.UNKNOWN);
        }
        check.due("counter 1", x.when(1, 1, 0, 0), BuyersArm.UNKNOWN);
        check.due("the last ones", x.when(1, 0, 1, 0), 30);
        check.due("one that is barred", x.when(0, 0, 1, 0), 30);
    }
}
