/** The edges of section 2 and of promises 11 to 14. */
public final class SalesEdgesTest {
    private static final Check check = new Check();

    public static void main(String[] args) {
        howManyElls();
        asMuchAsThereIs();
        nothingInStock();
        barredOnes();
        twelveSales();
        refusalsOfBuyInOrder();
        whatABoughtOneChanges();
        refusedBuysChangeNothing();
        undoToNothing();
        undoneByTheArmOfThen();
        whichSale();
        whatOfASale();
        aSaleThatIsNoMore();
        trulyInLeastTerms();
        trulyOfNobody();
        trulyOfBarredOnes();
        check.end();
    }

    private static void howManyElls() {
        check.sentence("n ELLS (1 .. 99); BAD: n");
        BuyersArm x = Check.with("A0100C019999");
        int[] bad = {0, 100, -1, -99, 101, Integer.MIN_VALUE, Integer.MIN_VALUE + 1, Integer.MAX_VALUE};
        for (int n : bad) {
            check.due("buy " + n, x.buy(0, 0, n), BuyersArm.BAD);
            check.due("no sale", x.count(2), 0);
            check.due("stock as it was", x.counter(0, 1), 9999);
        }
        check.due("buy 1", x.buy(0, 0, 1), 1);
        check.due("buy 99", x.buy(0, 0, 99), 99);
        check.due("stock", x.counter(0, 1), 9899);
        BuyersArm y = Check.with("A9900C999999");
        check.due("the most parts", y.buy(0, 0, 99), 9801);
        check.due("the most coins", y.person(0, 2), 9801);
    }

    private static void asMuchAsThereIs() {
        check.sentence("it gets n times its ARM of the STOCK (there must be as much)");
        int[][] cases = {{1, 1, 1}, {7, 3, 21}, {99, 99, 9801}, {10, 99, 990}, {99, 1, 99}};
        for (int[] one : cases) {
            String person = String.format("A%02d00", one[0]);
            BuyersArm just = Check.with(person + String.format("C01%04d", one[2]));
            check.due("just as much", just.buy(0, 0, one[1]), one[2]);
            check.due("nothing is left", just.counter(0, 1), 0);
            BuyersArm less = Check.with(person + String.format("C01%04d", one[2] - 1));
            check.due("one part less", less.buy(0, 0, one[1]), BuyersArm.LATE);
            check.due("all is left", less.counter(0, 1), one[2] - 1);
            check.due("no sale", less.count(2), 0);
            BuyersArm more = Check.with(person + String.format("C01%04d", one[2] + 1));
            check.due("one part more", more.buy(0, 0, one[1]), one[2]);
            check.due("one is left", more.counter(0, 1), 1);
        }
    }

    private static void nothingInStock() {
        check.sentence("LATE: .. there is not as much");
        BuyersArm x = Check.with("A0100C010000C010001");
        check.due("of nothing", x.buy(0, 0, 1), BuyersArm.LATE);
        check.due("all of the other", x.buy(0, 1, 1), 1);
        check.due("of nothing more", x.buy(0, 1, 1), BuyersArm.LATE);
        x.undo();
        check.due("all of it again", x.buy(0, 1, 1), 1);
    }

    private static void barredOnes() {
        check.sentence("a PERSON that is not BARRED; LATE: BARRED");
        BuyersArm x = Check.with("A0100A0200A0300C019999C019999N10N01");
        int[][] due = {{1, BuyersArm.LATE}, {BuyersArm.LATE, 2}, {3, 3}};
        for (int i = 0; i < 3; i++) {
            for (int c = 0; c < 2; c++) {
                check.due("buy " + i + " " + c, x.buy(i, c, 1), due[i][c]);
            }
        }
        check.due("four sales", x.count(2), 4);
    }

    private static BuyersArm withTwelve() {
        BuyersArm x = Check.with("A1000A2000C070125C010009N10");
        for (int i = 0; i < 12; i++) {
            check.due("buy " + i, x.buy(0, 0, 1), 10);
            check.due("so many", x.count(2), i + 1);
        }
        return x;
    }

    private static void twelveSales() {
        check.sentence("SALES that were made are a row (12 at most); FULL: 12");
        BuyersArm x = Check.with("A0100C079999");
        for (int i = 0; i < 12; i++) {
            check.due("buy " + i, x.buy(0, 0, 50 + i), 50 + i);
        }
        check.due("the 13th", x.buy(0, 0, 1), BuyersArm.FULL);
        check.due("twelve", x.count(2), 12);
        for (int i = 0; i < 12; i++) {
            check.due("sale " + i, x.sale(i, 2), 50 + i);
        }
        int stock = x.counter(0, 1);
        check.due("undo", x.undo(), 11);
        check.due("there is room", x.buy(0, 0, 61), 61);
        check.due("stock", x.counter(0, 1), stock);
        check.due("the 13th", x.buy(0, 0, 1), BuyersArm.FULL);
        for (int left = 11; left >= 0; left--) {
            check.due("undo", x.undo(), left);
        }
        check.due("stock as told", x.counter(0, 1), 9999);
    }

    private static void refusalsOfBuyInOrder() {
        check.sentence("UNKNOWN; BAD: n; LATE: BARRED, or there is not as much; FULL: 12. Of several what is told first");
        BuyersArm x = withTwelve();
        x.plaster(0, 5);
        check.due("FULL alone", x.buy(0, 0, 1), BuyersArm.FULL);
        check.due("not as much, FULL", x.buy(0, 0, 2), BuyersArm.LATE);
        check.due("barred, FULL", x.buy(1, 0, 1), BuyersArm.LATE);
        check.due("not as much elsewhere, FULL", x.buy(0, 1, 2), BuyersArm.LATE);
        check.due("n, FULL", x.buy(0, 0, 0), BuyersArm.BAD);
        check.due("n, not as much, FULL", x.buy(0, 0, 100), BuyersArm.BAD);
        check.due("n, barred, FULL", x.buy(1, 0, 100), BuyersArm.BAD);
        check.due("person, n", x.buy(2, 0, 0), BuyersArm.UNKNOWN);
        check.due("counter, n", x.buy(0, 2, 100), BuyersArm.UNKNOWN);
        check.due("counter, barred elsewhere, n", x.buy(1, 2, 100), BuyersArm.UNKNOWN);
        check.due("person, FULL", x.buy(-1, 0, 1), BuyersArm.UNKNOWN);
        check.due("counter, FULL", x.buy(0, -1, 1), BuyersArm.UNKNOWN);
        check.due("both, n", x.buy(Integer.MAX_VALUE, Integer.MIN_VALUE, 0), BuyersArm.UNKNOWN);
    }

    private static void whatABoughtOneChanges() {
        check.sentence("it gets n times its ARM of the STOCK, and pays n times the PRICE");
        BuyersArm x = Check.with("A1099A2099C070400C090500");
        check.due("buy", x.buy(1, 0, 5), 100);
        check.due("spent, the FEE is not paid", x.person(1, 2), 35);
        check.due("got", x.person(1, 3), 100);
        check.due("took", x.counter(0, 2), 35);
        check.due("sold", x.counter(0, 3), 5);
        check.due("stock", x.counter(0, 1), 300);
        check.due("stock of the other", x.counter(1, 1), 500);
        check.due("spent by the other", x.person(0, 2), 0);
        check.due("got by the other", x.person(0, 3), 0);
    }

    private static void refusedBuysChangeNothing() {
        check.sentence("What is refused changes nothing");
        BuyersArm x = withTwelve();
        int[][] refused = {{2, 0, 1}, {0, 2, 1}, {0, 0, 0}, {0, 0, 100}, {1, 0, 1}, {0, 1, 1}, {0, 0, 2}};
        for (int[] r : refused) {
            check.holds("refused", x.buy(r[0], r[1], r[2]) < 0);
            check.due("sales", x.count(2), 12);
            check.due("stock 0", x.counter(0, 1), 5);
            check.due("stock 1", x.counter(1, 1), 9);
            check.due("spent", x.person(0, 2), 84);
            check.due("got", x.person(1, 3), 0);
            check.due("the last one", x.sale(11, 3), 10);
        }
        check.due("undo", x.undo(), 11);
        check.due("stock 0", x.counter(0, 1), 15);
    }

    private static void undoToNothing() {
        check.sentence("The last SALE is undone: how many are left. LATE: there is none");
        BuyersArm x = new BuyersArm();
        check.due("nobody", x.undo(), BuyersArm.LATE);
        x = Check.with("A1000A2000C070400C010900");
        check.due("none yet", x.undo(), BuyersArm.LATE);
        check.due("as it was", x.count(2), 0);
        x.buy(0, 0, 1);
        x.buy(1, 1, 2);
        x.buy(1, 0, 3);
        int[][] stocks = {{390, 860}, {390, 900}, {400, 900}};
        for (int i = 0; i < 3; i++) {
            check.due("undo", x.undo(), 2 - i);
            check.due("stock 0", x.counter(0, 1), stocks[i][0]);
            check.due("stock 1", x.counter(1, 1), stocks[i][1]);
            check.due("left", x.count(2), 2 - i);
        }
        check.due("no more", x.undo(), BuyersArm.LATE);
        check.due("no more still", x.undo(), BuyersArm.LATE);
        check.due("stock 0", x.counter(0, 1), 400);
        check.due("stock 1", x.counter(1, 1), 900);
        check.due("none", x.count(2), 0);
        check.due("buy again", x.buy(0, 0, 1), 10);
    }

    private static void undoneByTheArmOfThen() {
        check.sentence("the last one can be undone: what it got goes back, by the ARM of then");
        BuyersArm x = Check.with("A9900C019999");
        x.buy(0, 0, 99);
        x.plaster(0, 1);
        x.buy(0, 0, 99);
        x.plaster(0, 50);
        check.due("stock", x.counter(0, 1), 99);
        x.undo();
        check.due("stock", x.counter(0, 1), 198);
        x.undo();
        check.due("stock", x.counter(0, 1), 9999);
        check.due("arm", x.person(0, 0), 50);
    }

    private static void whichSale() {
        check.sentence("Of the i-th SALE (from 0) ..; NONE: there is none such (for any other i)");
        BuyersArm x = Check.with("A0100A0200C019999C019999");
        int[] others = {-1, -2, 12, 13, Integer.MIN_VALUE, Integer.MAX_VALUE};
        for (int made = 0; made <= 12; made++) {
            for (int i = 0; i <= 12; i++) {
                check.due("sale " + i + " of " + made, x.sale(i, 2), i < made ? i + 1 : BuyersArm.NONE);
            }
            for (int i : others) {
                check.due("sale " + i + " of " + made, x.sale(i, 0), BuyersArm.NONE);
            }
            if (made < 12) {
                x.buy(made % 2, made / 2 % 2, made + 1);
            }
        }
    }

    private static void whatOfASale() {
        check.sentence("the PERSON (what = 0), COUNTER (1), ELLS (2), parts (3) .. BAD: what");
        BuyersArm x = Check.with("A0100A0200C019999C019999");
        for (int i = 0; i < 12; i++) {
            x.buy(i % 2, i / 2 % 2, 88 + i);
        }
        for (int i = 0; i < 12; i++) {
            check.due("person of " + i, x.sale(i, 0), i % 2);
            check.due("counter of " + i, x.sale(i, 1), i / 2 % 2);
            check.due("ells of " + i, x.sale(i, 2), 88 + i);
            check.due("parts of " + i, x.sale(i, 3), (88 + i) * (i % 2 + 1));
        }
        int[] bad = {4, 5, -1, -2, Integer.MIN_VALUE, Integer.MAX_VALUE};
        for (int what : bad) {
            check.due("what " + what, x.sale(0, what), BuyersArm.BAD);
            check.due("what " + what, x.sale(11, what), BuyersArm.BAD);
            // NONE is no refusal: refusals go ahead of it, as of UNKNOWN in cheapestBy.
            check.due("what " + what + " of none", x.sale(12, what), BuyersArm.BAD);
            check.due("what " + what + " of none", x.sale(-1, what), BuyersArm.BAD);
        }
    }

    private static void aSaleThatIsNoMore() {
        check.sentence("NONE: there is none such");
        BuyersArm x = Check.with("A0100C019999");
        x.buy(0, 0, 5);
        x.buy(0, 0, 6);
        x.undo();
        check.due("undone", x.sale(1, 2), BuyersArm.NONE);
        check.due("the other", x.sale(0, 2), 5);
        x.buy(0, 0, 7);
        check.due("another one", x.sale(1, 2), 7);
        x.market();
        check.due("of another market", x.sale(0, 2), BuyersArm.NONE);
    }

    private static void trulyInLeastTerms() {
        check.sentence("PRICE by ARM; FRACTIONS are told above (upper = true), below, in least terms");
        int[] prices = {1, 2, 36, 49, 60, 96, 97, 98, 99};
        for (int price : prices) {
            BuyersArm x = Check.with(String.format("A0100C%02d0000", price));
            for (int arm = 1; arm <= 99; arm++) {
                x.plaster(0, arm);
                int divisor = 1;
                for (int d = 2; d <= 99; d++) {
                    divisor = price % d == 0 && arm % d == 0 ? d : divisor;
                }
                check.due(price + " by " + arm + ", above", x.truly(0, 0, true), price / divisor);
                check.due(price + " by " + arm + ", below", x.truly(0, 0, false), arm / divisor);
            }
        }
    }

    private static void trulyOfNobody() {
        check.sentence("UNKNOWN; refusals of them are told likewise");
        BuyersArm x = Check.with("A0400A0600C080000C090000C100000");
        int[][] unknown = {{2, 0}, {-1, 0}, {0, 3}, {0, -1}, {2, 3}, {Integer.MIN_VALUE, 0}, {0, Integer.MAX_VALUE}};
        for (int[] u : unknown) {
            check.due("above", x.truly(u[0], u[1], true), BuyersArm.UNKNOWN);
            check.due("below", x.truly(u[0], u[1], false), BuyersArm.UNKNOWN);
        }
        check.due("the last ones, above", x.truly(1, 2, true), 5);
        check.due("the last ones, below", x.truly(1, 2, false), 3);
    }

    private static void trulyOfBarredOnes() {
        check.sentence("What a PERSON pays for a part at a COUNTER: PRICE by ARM");
        BuyersArm x = Check.with("A0400C060000N00");
        check.due("above", x.truly(0, 0, true), 3);
        check.due("below", x.truly(0, 0, false), 2);
    }
}
