/** The edges of section 3 and of promises 15 and 16. */
public final class WantEdgesTest {
    private static final int NONE = BuyersArm.NONE;

    private static final Check check = new Check();

    public static void main(String[] args) {
        howMuchIsWanted();
        leastAndMostCoins();
        noMoreThanTheStock();
        stockOfNow();
        nobodyThere();
        nobodyWhoMay();
        barredOnesBuyNothing();
        feesOnce();
        oneEllOrMoreEach();
        allSixBuy();
        theLeastSet();
        fewestOfTheFirst();
        armsOfNow();
        refusalsInOrder();
        nothingChanges();
        check.end();
    }

    private static void want(BuyersArm x, int counter, int l, int coins, int... ells) {
        check.due("cheapest " + counter + " " + l, x.cheapest(counter, l), coins);
        for (int i = 0; i < ells.length; i++) {
            check.due("cheapestBy " + counter + " " + l + " " + i, x.cheapestBy(counter, l, i), ells[i]);
        }
    }

    private static void howMuchIsWanted() {
        check.sentence("A WANT of L parts (1 .. 999); BAD: l");
        BuyersArm x = Check.with("A0100C019999");
        int[] bad = {0, 1000, -1, -999, 1001, Integer.MIN_VALUE, Integer.MAX_VALUE};
        for (int l : bad) {
            want(x, 0, l, BuyersArm.BAD, BuyersArm.BAD);
        }
        want(x, 0, 1, 1, 1);
        want(x, 0, 2, 2, 2);
        want(x, 0, 998, 998, 998);
        want(x, 0, 999, 999, 999);
        x.plaster(0, 99);
        want(x, 0, 1, 1, 1);
        want(x, 0, 99, 1, 1);
        want(x, 0, 100, 2, 2);
        want(x, 0, 990, 10, 10);
        want(x, 0, 991, 11, 11);
        want(x, 0, 999, 11, 11);
    }

    private static void leastAndMostCoins() {
        check.sentence("it costs the PRICE of all ELLS and the FEES of these PEOPLE");
        want(Check.with("A0100C019999"), 0, 1, 1, 1);
        want(Check.with("A0199C999999"), 0, 999, 999 * 99 + 99, 999);
        want(Check.with("A9999C999999"), 0, 999, 11 * 99 + 99, 11);
        want(Check.with("A9999C990099"), 0, 1, 99 + 99, 1);
        // Just 999 is nine times 99 and 54 times two: ten times 99 would leave nine.
        want(Check.with("A0299A9999C990999"), 0, 999, 63 * 99 + 99 + 99, 54, 9);
    }

    private static void noMoreThanTheStock() {
        check.sentence("so that they get L parts or more together, and no more than the STOCK; NONE: there is none");
        BuyersArm x = Check.with("A1000C010009C010010C010011C010020");
        want(x, 0, 1, NONE, NONE);
        want(x, 0, 9, NONE, NONE);
        want(x, 1, 1, 1, 1);
        want(x, 1, 10, 1, 1);
        want(x, 1, 11, NONE, NONE);
        want(x, 2, 10, 1, 1);
        want(x, 2, 11, NONE, NONE);
        want(x, 3, 11, 2, 2);
        want(x, 3, 20, 2, 2);
        want(x, 3, 21, NONE, NONE);
        x = Check.with("A9900C010999C011000C011089C011088");
        want(x, 0, 990, 10, 10);
        want(x, 0, 991, NONE, NONE);
        want(x, 1, 999, NONE, NONE);
        want(x, 2, 999, 11, 11);
        want(x, 3, 999, NONE, NONE);
        x = Check.with("A0100C010000C010998C010999");
        want(x, 0, 1, NONE, NONE);
        want(x, 1, 999, NONE, NONE);
        want(x, 1, 998, 998, 998);
        want(x, 2, 999, 999, 999);
    }

    private static void stockOfNow() {
        check.sentence("no more than the STOCK: as it is by SALES");
        BuyersArm x = Check.with("A1000C010050");
        want(x, 0, 50, 5, 5);
        x.buy(0, 0, 1);
        want(x, 0, 50, NONE, NONE);
        want(x, 0, 40, 4, 4);
        x.buy(0, 0, 4);
        want(x, 0, 1, NONE, NONE);
        x.undo();
        want(x, 0, 40, 4, 4);
        x.undo();
        want(x, 0, 50, 5, 5);
    }

    private static void nobodyThere() {
        check.sentence("NONE: there is none (nobody)");
        BuyersArm x = Check.with("C019999");
        want(x, 0, 1, NONE);
        want(x, 0, 999, NONE);
        check.due("by nobody", x.cheapestBy(0, 1, 0), BuyersArm.UNKNOWN);
    }

    private static void nobodyWhoMay() {
        check.sentence("some PEOPLE that are not BARRED (all are)");
        BuyersArm x = Check.with("A0100A0200A0300C019999C019999N00N10N20");
        want(x, 0, 1, NONE, NONE, NONE, NONE);
        want(x, 0, 999, NONE, NONE, NONE, NONE);
        want(x, 1, 3, 1, 0, 0, 1);
    }

    private static void barredOnesBuyNothing() {
        check.sentence("some PEOPLE that are not BARRED");
        // The best arm of all is barred, whichever it is.
        for (int barred = 0; barred < 6; barred++) {
            StringBuilder text = new StringBuilder();
            for (int i = 0; i < 6; i++) {
                text.append(i == barred ? "A5000" : "A1001");
            }
            BuyersArm x = Check.with(text + "C019999C019999N" + barred + "0");
            int[] ells = new int[6];
            ells[barred == 0 ? 1 : 0] = 5;
            want(x, 0, 50, 6, ells);
            int[] free = new int[6];
            free[barred] = 1;
            want(x, 1, 50, 1, free);
        }
    }

    private static void feesOnce() {
        check.sentence("the FEES of these PEOPLE: once each, of no others");
        BuyersArm x = Check.with("A1007A1099C010100");
        want(x, 0, 10, 8, 1, 0);
        want(x, 0, 100, 17, 10, 0);
        // By fees of nothing nobody is dearer.
        want(Check.with("A1000A1000C010100"), 0, 100, 10, 10, 0);
        // The longer arm is worth its fee only behind 50 parts.
        x = Check.with("A1000A2002C010400");
        want(x, 0, 20, 2, 2, 0);
        want(x, 0, 40, 4, 4, 0);
        want(x, 0, 50, 5, 5, 0);
        want(x, 0, 51, 5, 0, 3);
        want(x, 0, 60, 5, 0, 3);
    }

    private static void oneEllOrMoreEach() {
        check.sentence("some PEOPLE .. buy one ELL or more each");
        // The one that buys first is in no set in which it buys none.
        BuyersArm x = Check.with("A0105A0700C010070");
        want(x, 0, 70, 10, 0, 10);
        want(x, 0, 64, 10, 0, 10);
        x = Check.with("A0105A0700C010071");
        want(x, 0, 71, 16, 1, 10);
        // Alone it pays 22; with one, two, three ells of the other both pay 21, 15, 9.
        x = Check.with("A0100A0705C010022");
        want(x, 0, 22, 9, 1, 3);
    }

    private static void allSixBuy() {
        check.sentence("some PEOPLE: as many as there are");
        BuyersArm x = Check.with("A0100A0200A0400A0800A1600A3200C070063C070031");
        want(x, 0, 63, 42, 1, 1, 1, 1, 1, 1);
        want(x, 0, 62, 35, 0, 1, 1, 1, 1, 1);
        want(x, 0, 31, 7, 0, 0, 0, 0, 0, 1);
        want(x, 1, 31, 35, 1, 1, 1, 1, 1, 0);
    }

    private static void theLeastSet() {
        check.sentence("of like ones who buys is the least set");
        // One of six like ones, then of five, ..: the first that is not barred.
        String six = "A1000A1000A1000A1000A1000A1000C010010";
        String bars = "";
        for (int first = 0; first < 6; first++) {
            int[] ells = new int[6];
            ells[first] = 1;
            want(Check.with(six + bars), 0, 10, 1, ells);
            bars += "N" + first + "0";
        }
        want(Check.with(six + bars), 0, 10, NONE);
        // {0, 1, 2, 3, 4} (31) costs as much as {5} (32).
        want(Check.with("A0100A0200A0400A0800A1600A3104C010031"), 0, 31, 5, 1, 1, 1, 1, 1, 0);
        want(Check.with("A0100A0200A0400A0800A1600A3103C010031"), 0, 31, 4, 0, 0, 0, 0, 0, 1);
        // {5} (32) costs as much as {0, 5} (33), and {0} (1) as {1} (2).
        want(Check.with("A0100A9999A9999A9999A9999A0500C010010"), 0, 6, 2, 0, 0, 0, 0, 0, 2);
        want(Check.with("A0500A1001C010010"), 0, 10, 2, 2, 0);
    }

    private static void fewestOfTheFirst() {
        check.sentence("of these the one in which PERSON 0 buys fewest, then PERSON 1, ..");
        // The rows in the comments are all that cost as much, of the same people.
        // 1 1 2, 2 1 1
        want(Check.with("A2200A4000A2300C010108"), 0, 107, 4, 1, 1, 2);
        // 2 1 5, 3 1 4, 4 1 3
        want(Check.with("A1900A1000A1800C010140"), 0, 138, 8, 2, 1, 5);
        // 1 1 7, 2 1 6, 4 2 3, 5 2 2
        want(Check.with("A1300A0900A1200C010107"), 0, 106, 9, 1, 1, 7);
        // 1 6 2, 1 7 1, 2 1 6, 2 2 5: PERSON 0 goes ahead of PERSON 1.
        want(Check.with("A1000A1400A1500C010124"), 0, 123, 9, 1, 6, 2);
        // 2 1 3, 2 2 2, 2 3 1
        want(Check.with("A3400A1200A1300C010119"), 0, 117, 6, 2, 1, 3);
        // 1 1 1 3, 2 1 1 2, 3 1 1 1
        want(Check.with("A0900A3100A3600A1000C010106"), 0, 104, 6, 1, 1, 1, 3);
        // 1 1 2 3, 1 2 2 2, 1 3 2 1
        want(Check.with("A1600A0900A4000A1000C010135"), 0, 133, 7, 1, 1, 2, 3);
        // 1 1 1 3, 1 1 2 2, 1 1 3 1
        want(Check.with("A4000A2000A1200A1300C010111"), 0, 109, 6, 1, 1, 1, 3);
        // 0 1 3 2, 0 2 2 2, 0 3 1 2
        want(Check.with("A1100A1600A1500A2700C010117"), 0, 115, 6, 0, 1, 3, 2);
        // 1 0 1 4, 1 0 2 3, 1 0 3 2
        want(Check.with("A1700A0900A2400A2300C010135"), 0, 133, 6, 1, 0, 1, 4);
        // 1 5 2 0, 2 4 2 0, 5 2 1 0, 6 1 1 0
        want(Check.with("A1600A1700A1300A1200C010127"), 0, 126, 8, 1, 5, 2, 0);
    }

    private static void armsOfNow() {
        check.sentence("they get L parts: by the ARMS as they are");
        BuyersArm x = Check.with("A1000A2000C010100");
        want(x, 0, 100, 5, 0, 5);
        x.plaster(0, 50);
        want(x, 0, 100, 2, 2, 0);
        x.plaster(1, 99);
        want(x, 0, 99, 1, 0, 1);
        x.market();
        want(x, 0, 100, 5, 0, 5);
    }

    private static void refusalsInOrder() {
        check.sentence("UNKNOWN: counter, person; BAD: l. Of several what is told first");
        BuyersArm x = Check.with("A1000A1000C010000C010000");
        int[] far = {2, -1, 4, Integer.MIN_VALUE, Integer.MAX_VALUE};
        for (int counter : far) {
            check.due("counter " + counter, x.cheapest(counter, 1), BuyersArm.UNKNOWN);
            check.due("counter " + counter + ", l", x.cheapest(counter, 0), BuyersArm.UNKNOWN);
            check.due("by counter " + counter, x.cheapestBy(counter, 1, 0), BuyersArm.UNKNOWN);
            check.due("by counter " + counter + ", l", x.cheapestBy(counter, 1000, 0), BuyersArm.UNKNOWN);
            check.due("by counter " + counter + ", person, l", x.cheapestBy(counter, 0, 2), BuyersArm.UNKNOWN);
        }
        int[] people = {2, -1, 6, Integer.MIN_VALUE, Integer.MAX_VALUE};
        for (int person : people) {
            check.due("by person " + person, x.cheapestBy(0, 1, person), BuyersArm.UNKNOWN);
            check.due("by person " + person + ", l", x.cheapestBy(0, 0, person), BuyersArm.UNKNOWN);
        }
        check.due("l is ahead of NONE", x.cheapest(0, 1000), BuyersArm.BAD);
        check.due("by, l is ahead of NONE", x.cheapestBy(0, 1000, 0), BuyersArm.BAD);
        check.due("NONE", x.cheapest(1, 999), NONE);
        check.due("by, NONE", x.cheapestBy(1, 999, 1), NONE);
    }

    private static void nothingChanges() {
        check.sentence("THE CHEAPEST is told, not bought");
        BuyersArm x = Check.with("A1001A2002C010100");
        want(x, 0, 60, 5, 0, 3);
        check.due("no sale", x.count(2), 0);
        check.due("stock", x.counter(0, 1), 100);
        check.due("spent", x.person(1, 2), 0);
        // Whatever was asked before, the answer is the same.
        want(x, 0, 999, NONE, NONE, NONE);
        want(x, 0, 1, 2, 1, 0);
        want(x, 0, 60, 5, 0, 3);
    }
}
