/** The edges of section 4 and of promises 17 to 20. */
public final class RingEdgesTest {
    private static final int NONE = BuyersArm.NONE;

    private static final Check check = new Check();

    public static void main(String[] args) {
        whichGoods();
        anotherOne();
        howMuchForHowMuch();
        eightExchanges();
        refusalsOfExchangeInOrder();
        refusedOnesAreNotThere();
        noneAtFirst();
        noneAnyMore();
        oneIsNoRing();
        whatDoesNotClose();
        noMoreThanThree();
        noGoodTwice();
        coinsAreCounted();
        greatestAndLeastGain();
        gainsOfNoMore();
        twoAheadOfThree();
        thenByNumbers();
        onlyAGreaterGain();
        theArmOfNow();
        whichOfTheRing();
        refusalsInOrder();
        check.end();
    }

    private static BuyersArm withArm(int arm) {
        BuyersArm x = Check.with("A0100");
        x.plaster(0, arm);
        return x;
    }

    private static void ring(BuyersArm x, long above, long below, int... numbers) {
        check.due("ring above", x.ring(0, true), above);
        check.due("ring below", x.ring(0, false), below);
        for (int i = 0; i < numbers.length; i++) {
            check.due("ringAt " + i, x.ringAt(0, i), numbers[i]);
        }
        check.due("ringAt behind the last", x.ringAt(0, numbers.length), NONE);
        check.due("ringAt -1", x.ringAt(0, -1), NONE);
    }

    private static void noRing(BuyersArm x) {
        ring(x, NONE, NONE);
    }

    private static void whichGoods() {
        check.sentence("GOODS are 0 (coins), 1, 2; UNKNOWN: goods");
        BuyersArm x = new BuyersArm();
        int[] far = {3, -1, 4, Integer.MIN_VALUE, Integer.MAX_VALUE};
        for (int good : far) {
            for (int other = 0; other < 3; other++) {
                check.due("from " + good, x.exchange(good, other, 1, 1, 1), BuyersArm.UNKNOWN);
                check.due("to " + good, x.exchange(other, good, 1, 1, 1), BuyersArm.UNKNOWN);
            }
            check.due("from and to " + good, x.exchange(good, good, 1, 1, 1), BuyersArm.UNKNOWN);
        }
        check.due("none", x.count(3), 0);
        int made = 0;
        for (int pair = 0; pair < 9; pair++) {
            if (pair / 3 != pair % 3) {
                made++;
                check.due("from " + pair / 3 + " to " + pair % 3, x.exchange(pair / 3, pair % 3, 1, 1, 1), made);
            }
        }
    }

    private static void anotherOne() {
        check.sentence("from a GOOD to another one; BAD: both are one");
        BuyersArm x = new BuyersArm();
        for (int good = 0; good < 3; good++) {
            check.due("from and to " + good, x.exchange(good, good, 1, 1, 1), BuyersArm.BAD);
        }
        check.due("none", x.count(3), 0);
    }

    private static void howMuchForHowMuch() {
        check.sentence("x, y (1 .. 9), c (1 .. 99); BAD: x, y, c");
        int[] bad = {0, 10, -1, -9, Integer.MIN_VALUE, Integer.MAX_VALUE};
        int[] badArms = {0, 100, -1, -99, Integer.MIN_VALUE, Integer.MAX_VALUE};
        for (int good = 0; good < 3; good++) {
            int other = (good + 1) % 3;
            BuyersArm x = new BuyersArm();
            for (int i = 0; i < bad.length; i++) {
                check.due("x " + bad[i], x.exchange(good, other, bad[i], 1, 1), BuyersArm.BAD);
                check.due("y " + bad[i], x.exchange(good, other, 1, bad[i], 1), BuyersArm.BAD);
                // Of coins c says nothing, but is told all the same.
                check.due("c " + badArms[i], x.exchange(good, other, 1, 1, badArms[i]), BuyersArm.BAD);
            }
            check.due("none", x.count(3), 0);
            int[][] fine = {{1, 1, 1}, {9, 1, 1}, {1, 9, 1}, {1, 1, 99}, {9, 9, 99}};
            for (int i = 0; i < fine.length; i++) {
                check.due("fine", x.exchange(good, other, fine[i][0], fine[i][1], fine[i][2]), i + 1);
            }
        }
    }

    private static BuyersArm withEight() {
        BuyersArm x = withArm(1);
        for (int i = 1; i <= 8; i++) {
            check.due("exchange", x.exchange(i % 2, 1 - i % 2, 1, i, 1), i);
            check.due("so many", x.count(3), i);
        }
        return x;
    }

    private static void eightExchanges() {
        check.sentence("EXCHANGES (8 at most ..): how many there are; FULL: 8");
        BuyersArm x = withEight();
        ring(x, 56, 1, 6, 7);
        check.due("the 9th", x.exchange(0, 1, 1, 9, 1), BuyersArm.FULL);
        check.due("the 9th again", x.exchange(0, 1, 1, 9, 1), BuyersArm.FULL);
        check.due("eight", x.count(3), 8);
        ring(x, 56, 1, 6, 7);
    }

    private static void refusalsOfExchangeInOrder() {
        check.sentence("UNKNOWN: goods; BAD: both are one, x, y, c; FULL: 8. Of several what is told first");
        BuyersArm x = withEight();
        check.due("goods, x, FULL", x.exchange(3, 0, 0, 1, 1), BuyersArm.UNKNOWN);
        check.due("goods, y, FULL", x.exchange(0, 3, 1, 10, 1), BuyersArm.UNKNOWN);
        check.due("goods, c, FULL", x.exchange(-1, 0, 1, 1, 100), BuyersArm.UNKNOWN);
        check.due("goods, both are one, FULL", x.exchange(3, 3, 1, 1, 1), BuyersArm.UNKNOWN);
        check.due("goods, FULL", x.exchange(3, 0, 1, 1, 1), BuyersArm.UNKNOWN);
        check.due("both are one, FULL", x.exchange(2, 2, 1, 1, 1), BuyersArm.BAD);
        check.due("x, FULL", x.exchange(0, 1, 0, 1, 1), BuyersArm.BAD);
        check.due("y, FULL", x.exchange(0, 1, 1, 10, 1), BuyersArm.BAD);
        check.due("c, FULL", x.exchange(0, 1, 1, 1, 0), BuyersArm.BAD);
        check.due("eight", x.count(3), 8);
    }

    private static void refusedOnesAreNotThere() {
        check.sentence("What is refused changes nothing");
        BuyersArm x = withArm(1);
        x.exchange(0, 1, 1, 2, 1);
        int[][] refused = {{3, 0, 1, 9, 1}, {1, 1, 1, 9, 1}, {1, 0, 0, 9, 1}, {1, 0, 1, 10, 1}, {1, 0, 1, 9, 0}, {1, 0, 1, 9, 100}};
        for (int[] r : refused) {
            check.holds("refused", x.exchange(r[0], r[1], r[2], r[3], r[4]) < 0);
            check.due("one", x.count(3), 1);
            noRing(x);
        }
        check.due("the second", x.exchange(1, 0, 1, 1, 1), 2);
        ring(x, 2, 1, 0, 1);
    }

    private static void noneAtFirst() {
        check.sentence("EXCHANGES (.. none at first); NONE: there is none, told above and below likewise");
        BuyersArm x = withArm(5);
        noRing(x);
        check.due("none", x.count(3), 0);
        check.due("unchange", x.unchange(), 0);
        check.due("unchange again", x.unchange(), 0);
    }

    private static void noneAnyMore() {
        check.sentence("There are no EXCHANGES: how many there were");
        BuyersArm x = withEight();
        check.due("unchange", x.unchange(), 8);
        check.due("none", x.count(3), 0);
        noRing(x);
        check.due("unchange again", x.unchange(), 0);
        // Numbers begin anew, and nothing of those before is left.
        check.due("one", x.exchange(1, 0, 1, 3, 1), 1);
        noRing(x);
        check.due("two", x.exchange(0, 1, 1, 1, 1), 2);
        ring(x, 3, 1, 0, 1);
        for (int i = 3; i <= 8; i++) {
            check.due("up to eight", x.exchange(0, 1, 1, 1, 1), i);
        }
        check.due("the 9th", x.exchange(0, 1, 1, 1, 1), BuyersArm.FULL);
    }

    private static void oneIsNoRing() {
        check.sentence("A RING of a PERSON: two or three EXCHANGES");
        for (int pair = 0; pair < 9; pair++) {
            BuyersArm x = withArm(9);
            if (pair / 3 != pair % 3) {
                x.exchange(pair / 3, pair % 3, 1, 9, 1);
                noRing(x);
                x.exchange(pair % 3, pair / 3, 1, 1, 1);
                check.holds("two are one", x.ring(0, true) > 0);
            }
        }
    }

    private static void whatDoesNotClose() {
        check.sentence("each from the GOOD to which the one ahead of it goes, the last one to that from which the first one goes");
        int[][][] open = {
            {{0, 1}, {0, 1}}, {{0, 1}, {1, 2}}, {{0, 1}, {2, 1}}, {{0, 1}, {0, 2}}, {{0, 1}, {2, 0}},
            {{0, 1}, {1, 2}, {0, 2}}, {{1, 0}, {1, 2}, {0, 2}}, {{0, 1}, {0, 2}, {1, 2}}, {{2, 1}, {1, 0}, {2, 0}}};
        for (int[][] exchanges : open) {
            BuyersArm x = withArm(9);
            for (int[] e : exchanges) {
                x.exchange(e[0], e[1], 1, 9, 1);
            }
            noRing(x);
        }
        // Both ways round, and begun anywhere.
        int[][][] closed = {{{0, 1}, {1, 2}, {2, 0}}, {{2, 0}, {0, 1}, {1, 2}}, {{0, 2}, {2, 1}, {1, 0}}, {{1, 0}, {0, 2}, {2, 1}}};
        for (int[][] exchanges : closed) {
            BuyersArm x = withArm(1);
            for (int[] e : exchanges) {
                x.exchange(e[0], e[1], 1, 2, 1);
            }
            ring(x, 8, 1, 0, 1, 2);
        }
    }

    private static void noMoreThanThree() {
        check.sentence("two or three EXCHANGES .. no GOOD twice");
        // Four in a row would gain 16.
        BuyersArm x = withArm(1);
        x.exchange(0, 1, 1, 2, 1);
        x.exchange(1, 0, 1, 2, 1);
        x.exchange(0, 2, 1, 2, 1);
        x.exchange(2, 0, 1, 2, 1);
        ring(x, 4, 1, 0, 1);
    }

    private static void noGoodTwice() {
        check.sentence("no GOOD twice");
        // The first one again behind the second would gain more.
        BuyersArm x = withArm(1);
        x.exchange(0, 1, 1, 9, 1);
        x.exchange(1, 0, 2, 1, 1);
        ring(x, 9, 2, 0, 1);
        x.exchange(0, 1, 1, 8, 1);
        ring(x, 9, 2, 0, 1);
    }

    private static void coinsAreCounted() {
        check.sentence("for x ELLS of the first by an ARM of c (of coins: x) one gets y ELLS of the other by one's own ARM (of coins: y)");
        BuyersArm x = withArm(7);
        // From coins c is set aside; to coins one's own arm is.
        x.exchange(0, 1, 3, 2, 99);
        x.exchange(1, 0, 1, 5, 11);
        ring(x, 2 * 7 * 5, 3 * 11, 0, 1);
        x = withArm(7);
        x.exchange(1, 2, 3, 2, 13);
        x.exchange(2, 1, 1, 5, 11);
        ring(x, 2 * 7 * 5 * 7, 3 * 13 * 11, 0, 1);
        x = withArm(7);
        x.exchange(2, 0, 3, 2, 13);
        x.exchange(0, 2, 1, 5, 11);
        ring(x, 2 * 5 * 7, 3 * 13, 0, 1);
        x = withArm(7);
        x.exchange(0, 1, 3, 2, 99);
        x.exchange(1, 2, 1, 5, 11);
        x.exchange(2, 0, 5, 4, 13);
        ring(x, 2 * 7 * 7 * 4, 3 * 11 * 13, 0, 1, 2);
    }

    private static void greatestAndLeastGain() {
        check.sentence("its GAIN .. a FRACTION: the greatest and the least there can be");
        BuyersArm x = withArm(99);
        x.exchange(0, 1, 1, 9, 1);
        x.exchange(1, 2, 1, 9, 1);
        x.exchange(2, 0, 1, 9, 1);
        ring(x, 9L * 99 * 9 * 99 * 9, 1, 0, 1, 2);
        x = withArm(1);
        x.exchange(0, 1, 9, 1, 99);
        x.exchange(1, 2, 9, 1, 99);
        x.exchange(2, 0, 9, 1, 99);
        ring(x, 1, 9L * 9 * 99 * 9 * 99, 0, 1, 2);
        x = withArm(98);
        x.exchange(0, 1, 9, 8, 99);
        x.exchange(1, 2, 9, 8, 97);
        x.exchange(2, 0, 9, 8, 95);
        ring(x, 8L * 98 * 8 * 98 * 8, 9L * 9 * 97 * 9 * 95, 0, 1, 2);
        x = withArm(98);
        x.exchange(1, 2, 9, 8, 97);
        x.exchange(2, 1, 9, 8, 95);
        ring(x, 8L * 98 * 8 * 98, 9L * 97 * 9 * 95, 0, 1);
    }

    private static void gainsOfNoMore() {
        check.sentence("THE BEST RING: with the greatest GAIN (also where it is less than one)");
        BuyersArm x = withArm(1);
        x.exchange(0, 1, 9, 1, 1);
        x.exchange(1, 0, 9, 1, 1);
        ring(x, 1, 81, 0, 1);
        x.exchange(1, 0, 9, 2, 1);
        ring(x, 2, 81, 0, 2);
        x.exchange(1, 0, 1, 9, 1);
        ring(x, 1, 1, 0, 3);
    }

    private static void twoAheadOfThree() {
        check.sentence("of like ones of two ahead of three");
        BuyersArm x = withArm(1);
        x.exchange(0, 1, 1, 2, 1);
        x.exchange(1, 2, 1, 2, 1);
        x.exchange(2, 0, 1, 2, 1);
        ring(x, 8, 1, 0, 1, 2);
        x.exchange(2, 1, 1, 3, 1);
        ring(x, 8, 1, 0, 1, 2);
        x.exchange(2, 1, 1, 4, 1);
        ring(x, 8, 1, 1, 4);
        x.exchange(1, 0, 1, 4, 1);
        ring(x, 8, 1, 0, 5);
        x.exchange(2, 0, 1, 3, 1);
        ring(x, 12, 1, 0, 1, 6);
    }

    private static void thenByNumbers() {
        check.sentence("then by the numbers of its EXCHANGES, the first one's, the second one's, ..");
        // Four like ones of two: 0 2, 0 3, 1 2, 1 3, and each the other way round.
        BuyersArm x = withArm(1);
        x.exchange(0, 1, 1, 1, 1);
        x.exchange(0, 1, 1, 1, 1);
        x.exchange(1, 0, 1, 1, 1);
        x.exchange(1, 0, 1, 1, 1);
        ring(x, 1, 1, 0, 2);
        // Begun with the least number, not with coins.
        x = withArm(1);
        x.exchange(2, 1, 1, 1, 1);
        x.exchange(0, 2, 1, 1, 1);
        x.exchange(1, 0, 1, 1, 1);
        ring(x, 1, 1, 0, 2, 1);
        // 0 2 4, 0 2 5, 0 3 4, 0 3 5, 1 2 4, ..
        x = withArm(1);
        x.exchange(0, 1, 1, 2, 1);
        x.exchange(0, 1, 1, 2, 1);
        x.exchange(1, 2, 1, 1, 1);
        x.exchange(1, 2, 1, 1, 1);
        x.exchange(2, 0, 2, 1, 1);
        x.exchange(2, 0, 1, 1, 2);
        ring(x, 1, 1, 0, 2, 4);
        // 0 3 goes ahead of 1 2, whichever goods they are of.
        x = withArm(1);
        x.exchange(2, 1, 1, 1, 1);
        x.exchange(0, 1, 1, 1, 1);
        x.exchange(1, 0, 1, 1, 1);
        x.exchange(1, 2, 1, 1, 1);
        ring(x, 1, 1, 0, 3);
    }

    private static void onlyAGreaterGain() {
        check.sentence("with the greatest GAIN: 2 by 3 and 4 by 6 are like ones, 3 by 4 is more");
        BuyersArm x = withArm(1);
        x.exchange(0, 1, 3, 2, 1);
        x.exchange(1, 0, 1, 1, 1);
        x.exchange(0, 1, 6, 4, 1);
        ring(x, 2, 3, 0, 1);
        x.exchange(0, 1, 4, 3, 1);
        ring(x, 3, 4, 1, 3);
        x.exchange(0, 1, 9, 7, 1);
        ring(x, 7, 9, 1, 4);
        x.exchange(0, 1, 8, 6, 1);
        ring(x, 7, 9, 1, 4);
    }

    private static void theArmOfNow() {
        check.sentence("y ELLS of the other by one's own ARM");
        BuyersArm x = Check.with("A1000A2000");
        x.exchange(0, 1, 1, 1, 1);
        x.exchange(1, 0, 1, 1, 1);
        check.due("of 0", x.ring(0, true), 10);
        check.due("of 1", x.ring(1, true), 20);
        x.plaster(0, 99);
        check.due("of 0 behind a plaster", x.ring(0, true), 99);
        check.due("of 1 as it was", x.ring(1, true), 20);
        // Two between goods that are no coins are worth more by a long arm alone.
        x.exchange(1, 2, 9, 1, 1);
        x.exchange(2, 1, 9, 1, 1);
        x.plaster(0, 80);
        check.due("a short one", x.ringAt(0, 0), 0);
        x.plaster(0, 82);
        check.due("a long one", x.ringAt(0, 0), 2);
        x.plaster(0, 81);
        check.due("like ones", x.ringAt(0, 0), 0);
        check.due("the other's", x.ringAt(1, 0), 0);
    }

    private static void whichOfTheRing() {
        check.sentence("The number of its i-th EXCHANGE (from 0); NONE: there is none such");
        int[] far = {-1, -2, 8, Integer.MIN_VALUE, Integer.MAX_VALUE};
        BuyersArm x = withArm(1);
        x.exchange(0, 1, 1, 1, 1);
        x.exchange(1, 2, 1, 2, 1);
        x.exchange(1, 0, 1, 1, 1);
        int[] two = {0, 2, NONE, NONE};
        for (int i = 0; i < 4; i++) {
            check.due("of two, " + i, x.ringAt(0, i), two[i]);
        }
        x.exchange(2, 0, 1, 1, 1);
        int[] three = {0, 1, 3, NONE};
        for (int i = 0; i < 4; i++) {
            check.due("of three, " + i, x.ringAt(0, i), three[i]);
        }
        for (int i : far) {
            check.due("of three, " + i, x.ringAt(0, i), NONE);
        }
        x.unchange();
        for (int i = 0; i < 4; i++) {
            check.due("of none, " + i, x.ringAt(0, i), NONE);
        }
    }

    private static void refusalsInOrder() {
        check.sentence("UNKNOWN; refusals of FRACTIONS are told likewise");
        BuyersArm x = Check.with("A0100A0100");
        int[] far = {2, 6, -1, Integer.MIN_VALUE, Integer.MAX_VALUE};
        for (int turn = 0; turn < 2; turn++) {
            for (int person : far) {
                check.due("above", x.ring(person, true), BuyersArm.UNKNOWN);
                check.due("below", x.ring(person, false), BuyersArm.UNKNOWN);
                check.due("at", x.ringAt(person, 0), BuyersArm.UNKNOWN);
                check.due("at, ahead of NONE", x.ringAt(person, -1), BuyersArm.UNKNOWN);
                check.due("at, ahead of NONE", x.ringAt(person, 3), BuyersArm.UNKNOWN);
            }
            x.exchange(0, 1, 1, 1, 1);
            x.exchange(1, 0, 1, 1, 1);
        }
        check.due("the last one", x.ring(1, true), 1);
    }
}
