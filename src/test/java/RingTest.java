/** Promises 17 to 20. */
public final class RingTest {
    private static final Check check = new Check();

    public static void main(String[] args) {
        exchange();
        unchange();
        gains();
        noRing();
        bestOfSeveral();
        likeOnes();
        longest();
        refusals();
        check.end();
    }

    private static void ring(BuyersArm x, int person, long above, long below, int... numbers) {
        check.due("ring above", x.ring(person, true), above);
        check.due("ring below", x.ring(person, false), below);
        for (int i = 0; i < numbers.length; i++) {
            check.due("ringAt " + i, x.ringAt(person, i), numbers[i]);
        }
        check.due("ringAt behind it", x.ringAt(person, numbers.length), BuyersArm.NONE);
        check.due("ringAt -1", x.ringAt(person, -1), BuyersArm.NONE);
        check.due("ringAt 3", x.ringAt(person, 3), BuyersArm.NONE);
        check.due("ringAt least int", x.ringAt(person, Integer.MIN_VALUE), BuyersArm.NONE);
        check.due("ringAt greatest int", x.ringAt(person, Integer.MAX_VALUE), BuyersArm.NONE);
    }

    private static void exchange() {
        BuyersArm x = new BuyersArm();
        int[][] unknown = {{3, 0}, {0, 3}, {-1, 0}, {0, -1}, {3, 3}, {-1, -1}};
        for (int[] goods : unknown) {
            check.due("goods", x.exchange(goods[0], goods[1], 1, 1, 1), BuyersArm.UNKNOWN);
            check.due("UNKNOWN is ahead of BAD", x.exchange(goods[0], goods[1], 0, 0, 0), BuyersArm.UNKNOWN);
        }
        int[][] bad = {{1, 1, 1, 1, 1}, {0, 0, 1, 1, 1}, {0, 1, 0, 1, 1}, {0, 1, 10, 1, 1}, {0, 1, 1, 0, 1},
            {0, 1, 1, 10, 1}, {0, 1, 1, 1, 0}, {0, 1, 1, 1, 100}, {0, 1, -1, 1, 1}, {1, 0, 1, 1, -1}};
        for (int[] b : bad) {
            check.due("bad", x.exchange(b[0], b[1], b[2], b[3], b[4]), BuyersArm.BAD);
        }
        check.due("none yet", x.count(3), 0);
        for (int i = 1; i <= 8; i++) {
            check.due("exchange", x.exchange(i % 3, (i + 1) % 3, 9, 9, 99), i);
        }
        check.due("the 9th", x.exchange(0, 1, 1, 1, 1), BuyersArm.FULL);
        check.due("BAD is ahead of FULL", x.exchange(1, 1, 1, 1, 1), BuyersArm.BAD);
        check.due("eight", x.count(3), 8);
    }

    private static void unchange() {
        BuyersArm x = Check.with("A1000");
        check.due("unchange of none", x.unchange(), 0);
        x.exchange(0, 1, 1, 1, 1);
        x.exchange(1, 0, 1, 1, 1);
        ring(x, 0, 10, 1, 0, 1);
        check.due("unchange", x.unchange(), 2);
        check.due("none", x.count(3), 0);
        ring(x, 0, BuyersArm.NONE, BuyersArm.NONE);
        check.due("anew", x.exchange(1, 0, 1, 1, 1), 1);
        ring(x, 0, BuyersArm.NONE, BuyersArm.NONE);
    }

    private static void gains() {
        BuyersArm x = Check.with("A2000A4000");
        x.exchange(0, 1, 5, 2, 77);
        x.exchange(1, 0, 3, 8, 20);
        ring(x, 0, 16, 15, 0, 1);
        ring(x, 1, 32, 15, 0, 1);
        x.plaster(0, 1);
        ring(x, 0, 4, 75, 0, 1);
        // Each call looks anew.
        check.due("ringAt ahead of a change", x.ringAt(0, 0), 0);
        x.exchange(1, 0, 1, 9, 1);
        check.due("ringAt behind a change", x.ringAt(0, 1), 2);
        // Between two goods that are no coins the arms count on both sides.
        x.unchange();
        x.exchange(1, 2, 2, 3, 10);
        x.exchange(2, 1, 5, 1, 40);
        ring(x, 1, 6, 5, 0, 1);
        // All three goods.
        x.unchange();
        x.exchange(2, 0, 1, 7, 30);
        x.exchange(0, 1, 3, 2, 1);
        x.exchange(1, 2, 1, 1, 50);
        ringOf(x, 1, 7L * 80 * 40, 30L * 3 * 50, 0, 1, 2);
    }

    /** The same, where the gain is not in least terms yet. */
    private static void ringOf(BuyersArm x, int person, long above, long below, int... numbers) {
        long a = above;
        long b = below;
        while (b != 0) {
            long r = a % b;
            a = b;
            b = r;
        }
        ring(x, person, above / a, below / a, numbers);
    }

    private static void noRing() {
        BuyersArm x = Check.with("A2000");
        ring(x, 0, BuyersArm.NONE, BuyersArm.NONE);
        x.exchange(0, 1, 1, 1, 1);
        x.exchange(0, 2, 1, 1, 1);
        x.exchange(1, 2, 1, 1, 1);
        ring(x, 0, BuyersArm.NONE, BuyersArm.NONE);
        // A ring may end with less than it began.
        x.unchange();
        x.exchange(0, 1, 9, 1, 1);
        x.exchange(1, 0, 9, 1, 99);
        ringOf(x, 0, 20, 9L * 9 * 99, 0, 1);
    }

    private static void bestOfSeveral() {
        BuyersArm x = Check.with("A2000A4000");
        x.exchange(0, 1, 5, 2, 1);
        x.exchange(1, 0, 3, 8, 20);
        x.exchange(1, 2, 2, 3, 30);
        x.exchange(2, 0, 1, 9, 10);
        ring(x, 1, 144, 5, 0, 2, 3);
        x.exchange(1, 0, 1, 9, 1);
        ring(x, 1, 144, 1, 0, 4);
        ring(x, 0, 72, 1, 0, 4);
    }

    private static void likeOnes() {
        // Two ahead of three, though the three have lesser numbers.
        BuyersArm x = Check.with("A0100");
        x.exchange(0, 1, 1, 1, 1);
        x.exchange(1, 2, 1, 1, 1);
        x.exchange(2, 0, 1, 1, 1);
        ring(x, 0, 1, 1, 0, 1, 2);
        x.exchange(1, 0, 1, 1, 1);
        ring(x, 0, 1, 1, 0, 3);
        // The first one's number, then the second one's.
        x.unchange();
        x.exchange(2, 1, 1, 1, 1);
        x.exchange(0, 1, 2, 2, 1);
        x.exchange(1, 0, 1, 1, 1);
        x.exchange(1, 2, 3, 3, 1);
        x.exchange(1, 2, 1, 1, 1);
        ring(x, 0, 1, 1, 0, 3);
        x.exchange(1, 0, 1, 2, 1);
        ring(x, 0, 2, 1, 1, 5);
        // A ring begins with the least of its numbers, whichever good that is.
        x.unchange();
        x.exchange(1, 2, 1, 2, 1);
        x.exchange(0, 1, 1, 2, 1);
        x.exchange(2, 0, 1, 2, 1);
        ring(x, 0, 8, 1, 0, 2, 1);
    }

    private static void longest() {
        BuyersArm x = Check.with("A9700");
        x.exchange(0, 1, 7, 8, 1);
        x.exchange(1, 2, 7, 8, 99);
        x.exchange(2, 0, 7, 8, 98);
        ringOf(x, 0, 8L * 8 * 8 * 97 * 97, 7L * 7 * 7 * 99 * 98, 0, 1, 2);
        x.unchange();
        x.plaster(0, 99);
        x.exchange(1, 2, 1, 9, 1);
        x.exchange(2, 1, 1, 9, 1);
        ring(x, 0, 9L * 9 * 99 * 99, 1, 0, 1);
        // Of eight exchanges the last two; what was there ahead of an unchange is no more.
        for (int i = 0; i < 4; i++) {
            x.exchange(0, 1, 9, 1, 9);
        }
        x.exchange(2, 1, 1, 9, 1);
        x.exchange(1, 2, 1, 9, 1);
        ring(x, 0, 9L * 9 * 99 * 99, 1, 0, 1);
        x.unchange();
        for (int i = 0; i < 6; i++) {
            x.exchange(0, 1, 9, 1, 9);
        }
        ring(x, 0, BuyersArm.NONE, BuyersArm.NONE);
        x.exchange(2, 1, 1, 9, 1);
        ring(x, 0, BuyersArm.NONE, BuyersArm.NONE);
        x.exchange(1, 2, 1, 9, 1);
        ring(x, 0, 9L * 9 * 99 * 99, 1, 6, 7);
    }

    private static void refusals() {
        BuyersArm x = Check.with("A2000");
        check.due("person 1 above", x.ring(1, true), BuyersArm.UNKNOWN);
        check.due("person 1 below", x.ring(1, false), BuyersArm.UNKNOWN);
        check.due("person -1", x.ring(-1, true), BuyersArm.UNKNOWN);
        check.due("at of person 1", x.ringAt(1, 0), BuyersArm.UNKNOWN);
        check.due("at of person -1", x.ringAt(-1, 9), BuyersArm.UNKNOWN);
    }
}
