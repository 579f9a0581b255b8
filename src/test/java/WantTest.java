/** Promises 15 and 16. */
public final class WantTest {
    private static final Check check = new Check();

    public static void main(String[] args) {
        ordinary();
        stockBounds();
        likeOnesBySet();
        likeOnesByElls();
        manyElls();
        barredOnes();
        refusals();
        check.end();
    }

    private static void want(BuyersArm x, int counter, int l, int coins, int... ells) {
        check.due("cheapest " + counter + " " + l, x.cheapest(counter, l), coins);
        for (int i = 0; i < ells.length; i++) {
            check.due("cheapestBy " + counter + " " + l + " " + i, x.cheapestBy(counter, l, i), ells[i]);
        }
    }

    private static void ordinary() {
        // The longer arm is dearer to hire, and pays off only where much is wanted.
        BuyersArm x = Check.with("A1000A3009C029999");
        want(x, 0, 10, 2, 1, 0);
        want(x, 0, 50, 10, 5, 0);
        want(x, 0, 90, 15, 0, 3);
        // One and three ells of 0 and 1 cost as much, but {1} is the lesser set.
        want(x, 0, 100, 17, 0, 4);
        want(x, 0, 101, 17, 0, 4);
        want(x, 0, 1, 2, 1, 0);
        x.plaster(0, 40);
        want(x, 0, 101, 6, 3, 0);
    }

    private static void stockBounds() {
        BuyersArm x = Check.with("A0700C010020");
        want(x, 0, 14, 2, 2);
        want(x, 0, 15, BuyersArm.NONE, BuyersArm.NONE);
        want(x, 0, 21, BuyersArm.NONE, BuyersArm.NONE);
        x = Check.with("A0700C010021");
        want(x, 0, 15, 3, 3);
        want(x, 0, 21, 3, 3);
        want(x, 0, 22, BuyersArm.NONE, BuyersArm.NONE);
        x.buy(0, 0, 1);
        want(x, 0, 15, BuyersArm.NONE, BuyersArm.NONE);
        x.undo();
        want(x, 0, 15, 3, 3);
        x = Check.with("A0700C010000");
        want(x, 0, 1, BuyersArm.NONE, BuyersArm.NONE);
        // What is too long for the stock alone may be met by a dearer way.
        x = Check.with("A9900A0150C010005");
        want(x, 0, 5, 55, 0, 5);
    }

    private static void likeOnesBySet() {
        BuyersArm x = Check.with("A1000A2000A2000C059999");
        want(x, 0, 20, 5, 0, 1, 0);
        // {1} is less than {0, 1}, {2}, {0, 2}.
        want(x, 0, 21, 10, 0, 2, 0);
        // {0} (1) is less than {2} (4).
        x = Check.with("A0101A0101A0202C010002");
        want(x, 0, 2, 3, 2, 0, 0);
        // {0, 1} (3) is less than {2} (4), though in {2} 0 buys none; then {2} is cheaper.
        x = Check.with("A0302A0202A0505C010005");
        want(x, 0, 5, 6, 1, 1, 0);
        x = Check.with("A0302A0202A0504C010005");
        want(x, 0, 5, 5, 0, 0, 1);
        // {1, 2} is 6, {3} is 8.
        x = Check.with("A9900A0302A0202A0505C010005");
        want(x, 0, 5, 6, 0, 1, 1, 0);
        // Two of one length, neither needs the other.
        x = Check.with("A1000A1000C010100");
        want(x, 0, 100, 10, 10, 0);
    }

    private static void likeOnesByElls() {
        BuyersArm x = Check.with("A0300A0200C010011");
        want(x, 0, 11, 4, 3, 1);
        // 1 and 2, or 2 and 1 ells; of both no other set will do.
        x = Check.with("A1000A1100C010032");
        want(x, 0, 31, 3, 1, 2);
        x = Check.with("A1100A1000C010032");
        want(x, 0, 31, 3, 1, 2);
        want(x, 0, 32, 3, 2, 1);
        // 1 1 3, 1 2 2, 1 3 1 are like ones.
        x = Check.with("A0800A1300A1400C010063");
        want(x, 0, 61, 5, 1, 1, 3);
        // The first row of ells is too much for the stock: 1 3 is 43 parts, 1 1 4 is 59.
        x = Check.with("A1000A1100C010042");
        want(x, 0, 41, 4, 2, 2);
        x = Check.with("A0500A1000A1100C010058");
        want(x, 0, 57, 6, 1, 2, 3);
        // 2 1 3, 2 2 2, 2 3 1 are like ones; somebody who is barred stands between.
        x = Check.with("A0400A6300A1300A1400C010063N10");
        want(x, 0, 61, 6, 2, 0, 1, 3);
    }

    private static void manyElls() {
        BuyersArm x = Check.with("A0100C999999");
        want(x, 0, 999, 999 * 99, 999);
        x = Check.with("A0199A0199A0199A0199A0199A0199C999999");
        want(x, 0, 999, 999 * 99 + 99, 999, 0, 0, 0, 0, 0);
        x = Check.with("A9999C999999");
        want(x, 0, 999, 11 * 99 + 99, 11);
        want(x, 0, 1, 99 + 99, 1);
        x = Check.with("A0900A0200A9900C010999");
        want(x, 0, 999, 11, 1, 0, 10);
    }

    private static void barredOnes() {
        BuyersArm x = Check.with("A1000A3000C029999C029999N10");
        want(x, 0, 60, 12, 6, 0);
        want(x, 1, 60, 4, 0, 2);
        x = Check.with("A1000C029999N00");
        want(x, 0, 60, BuyersArm.NONE, BuyersArm.NONE);
        x = Check.with("C029999");
        want(x, 0, 60, BuyersArm.NONE);
    }

    private static void refusals() {
        BuyersArm x = Check.with("A1000C020000");
        check.due("counter 1", x.cheapest(1, 1), BuyersArm.UNKNOWN);
        check.due("counter -1", x.cheapest(-1, 1), BuyersArm.UNKNOWN);
        check.due("l 0", x.cheapest(0, 0), BuyersArm.BAD);
        check.due("l 1000", x.cheapest(0, 1000), BuyersArm.BAD);
        check.due("l -1", x.cheapest(0, -1), BuyersArm.BAD);
        check.due("UNKNOWN is ahead of BAD", x.cheapest(1, 0), BuyersArm.UNKNOWN);
        check.due("by counter 1", x.cheapestBy(1, 1, 0), BuyersArm.UNKNOWN);
        check.due("by counter -1", x.cheapestBy(-1, 1, 0), BuyersArm.UNKNOWN);
        check.due("by person 1", x.cheapestBy(0, 1, 1), BuyersArm.UNKNOWN);
        check.due("by person -1", x.cheapestBy(0, 1, -1), BuyersArm.UNKNOWN);
        check.due("by l 0", x.cheapestBy(0, 0, 0), BuyersArm.BAD);
        check.due("by l 1000", x.cheapestBy(0, 1000, 0), BuyersArm.BAD);
        check.due("by, UNKNOWN is ahead of BAD", x.cheapestBy(0, 0, 1), BuyersArm.UNKNOWN);
        check.due("by, none", x.cheapestBy(0, 999, 0), BuyersArm.NONE);
    }
}
