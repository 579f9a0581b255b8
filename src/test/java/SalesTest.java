/** Promises 11 to 14. */
public final class SalesTest {
    private static final Check check = new Check();

    public static void main(String[] args) {
        buy();
        fullOfSales();
        undo();
        sale();
        truly();
        check.end();
    }

    private static void buy() {
        BuyersArm x = Check.with("A1005A2000C070400C029999N11");
        check.due("buy", x.buy(0, 0, 4), 40);
        check.due("stock", x.counter(0, 1), 360);
        check.due("buy all of it", x.buy(1, 0, 18), 360);
        check.due("nothing is left", x.buy(0, 0, 1), BuyersArm.LATE);
        check.due("barred", x.buy(1, 1, 1), BuyersArm.LATE);
        check.due("n 0", x.buy(0, 1, 0), BuyersArm.BAD);
        check.due("n 100", x.buy(0, 1, 100), BuyersArm.BAD);
        check.due("n least int", x.buy(0, 1, Integer.MIN_VALUE), BuyersArm.BAD);
        check.due("BAD is ahead of LATE", x.buy(1, 1, 0), BuyersArm.BAD);
        check.due("person 2", x.buy(2, 0, 1), BuyersArm.UNKNOWN);
        check.due("person -1", x.buy(-1, 0, 1), BuyersArm.UNKNOWN);
        check.due("counter 2", x.buy(0, 2, 1), BuyersArm.UNKNOWN);
        check.due("counter -1", x.buy(0, -1, 1), BuyersArm.UNKNOWN);
        check.due("UNKNOWN is ahead of BAD", x.buy(0, 2, 0), BuyersArm.UNKNOWN);
        check.due("what was refused is no sale", x.count(2), 2);
        check.due("buy 99", x.buy(0, 1, 99), 990);
        x.plaster(0, 99);
        check.due("not as much", x.buy(0, 1, 92), BuyersArm.LATE);
        check.due("just as much", x.buy(0, 1, 91), 9009);
        check.due("stock", x.counter(1, 1), 0);
    }

    private static void fullOfSales() {
        BuyersArm x = Check.with("A1005C070130");
        for (int i = 0; i < 12; i++) {
            check.due("buy " + i, x.buy(0, 0, 1), 10);
        }
        check.due("the 13th", x.buy(0, 0, 1), BuyersArm.FULL);
        check.due("LATE is ahead of FULL", x.buy(0, 0, 2), BuyersArm.LATE);
        check.due("stock", x.counter(0, 1), 10);
        check.due("sales", x.count(2), 12);
        check.due("undo", x.undo(), 11);
        check.due("buy again", x.buy(0, 0, 2), 20);
        check.due("sales", x.count(2), 12);
    }

    private static void undo() {
        BuyersArm x = Check.with("A1005C070400C080500");
        check.due("undo of none", x.undo(), BuyersArm.LATE);
        x.buy(0, 0, 3);
        x.buy(0, 1, 2);
        x.plaster(0, 50);
        check.due("undo", x.undo(), 1);
        check.due("stock by the arm of then", x.counter(1, 1), 500);
        check.due("the other stock", x.counter(0, 1), 370);
        check.due("the arm is as it is", x.person(0, 0), 50);
        check.due("spent", x.person(0, 2), 21);
        check.due("got", x.person(0, 3), 30);
        check.due("took", x.counter(1, 2), 0);
        check.due("sold", x.counter(1, 3), 0);
        check.due("lost", x.counter(1, 4), 1000000);
        check.due("lost by the other", x.counter(0, 4), 1000000 - 60);
        check.due("undo", x.undo(), 0);
        check.due("stock", x.counter(0, 1), 400);
        check.due("undo of none", x.undo(), BuyersArm.LATE);
    }

    private static void sale() {
        BuyersArm x = Check.with("A1005A2000C070400C080500");
        x.buy(1, 0, 3);
        x.buy(0, 1, 2);
        x.plaster(1, 50);
        int[] first = {1, 0, 3, 60};
        int[] second = {0, 1, 2, 20};
        for (int what = 0; what < 4; what++) {
            check.due("sale 0 " + what, x.sale(0, what), first[what]);
            check.due("sale 1 " + what, x.sale(1, what), second[what]);
            check.due("sale 2 " + what, x.sale(2, what), BuyersArm.NONE);
            check.due("sale 12 " + what, x.sale(12, what), BuyersArm.NONE);
            check.due("sale -1 " + what, x.sale(-1, what), BuyersArm.NONE);
        }
        check.due("sale least int", x.sale(Integer.MIN_VALUE, 0), BuyersArm.NONE);
        check.due("sale greatest int", x.sale(Integer.MAX_VALUE, 0), BuyersArm.NONE);
        check.due("what 4", x.sale(0, 4), BuyersArm.BAD);
        check.due("what -1", x.sale(0, -1), BuyersArm.BAD);
        check.due("a refusal is ahead of NONE", x.sale(2, 4), BuyersArm.BAD);
        x.undo();
        check.due("undone", x.sale(1, 0), BuyersArm.NONE);
    }

    private static void truly() {
        BuyersArm x = Check.with("A1205A0700C180000C990000N00");
        check.due("18 / 12 above", x.truly(0, 0, true), 3);
        check.due("18 / 12 below", x.truly(0, 0, false), 2);
        check.due("99 / 7 above", x.truly(1, 1, true), 99);
        check.due("99 / 7 below", x.truly(1, 1, false), 7);
        x.plaster(1, 99);
        check.due("99 / 99 above", x.truly(1, 1, true), 1);
        check.due("99 / 99 below", x.truly(1, 1, false), 1);
        for (int side = 0; side < 2; side++) {
            check.due("person 2", x.truly(2, 0, side == 0), BuyersArm.UNKNOWN);
            check.due("counter 2", x.truly(0, 2, side == 0), BuyersArm.UNKNOWN);
            check.due("person -1", x.truly(-1, 0, side == 0), BuyersArm.UNKNOWN);
            check.due("counter -1", x.truly(0, -1, side == 0), BuyersArm.UNKNOWN);
        }
    }
}
