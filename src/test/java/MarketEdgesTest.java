/** The edges of promises 1, 6 to 10 and 35: what is told of PEOPLE and COUNTERS, PLASTER, THE COMMON ELL. */
public final class MarketEdgesTest {
    private static final String FULL_MARKET = "A0100A0299A0301A0402A0503A9904C010000C029999C030003C990004N00N53N31N30";
    private static final int[] FAR = {Integer.MIN_VALUE, Integer.MIN_VALUE + 1, -2, -1, 32, 64, 256, Integer.MAX_VALUE};

    private static final Check check = new Check();

    public static void main(String[] args) {
        nobodyAtFirst();
        nothingAtFirst();
        whichPeople();
        whichCounters();
        whatOfAPerson();
        whatOfACounter();
        greatestSums();
        leastSums();
        lostByCommonElls();
        whoIsBarred();
        plasterBounds();
        plasterLeavesSales();
        commonBounds();
        whatIsCounted();
        theLastOfItsCalls();
        check.end();
    }

    private static void nobodyAtFirst() {
        check.sentence("BuyersArm(): Nobody, nothing");
        BuyersArm x = new BuyersArm();
        check.due("person", x.person(0, 0), BuyersArm.UNKNOWN);
        check.due("counter", x.counter(0, 0), BuyersArm.UNKNOWN);
        check.due("barred", x.barred(0, 0), BuyersArm.UNKNOWN);
        check.due("plaster", x.plaster(0, 1), BuyersArm.UNKNOWN);
        check.due("buy", x.buy(0, 0, 1), BuyersArm.UNKNOWN);
        check.due("truly", x.truly(0, 0, true), BuyersArm.UNKNOWN);
        check.due("truly", x.truly(0, 0, false), BuyersArm.UNKNOWN);
        check.due("cheapest", x.cheapest(0, 1), BuyersArm.UNKNOWN);
        check.due("cheapestBy", x.cheapestBy(0, 1, 0), BuyersArm.UNKNOWN);
        check.due("ring", x.ring(0, true), BuyersArm.UNKNOWN);
        check.due("ringAt", x.ringAt(0, 0), BuyersArm.UNKNOWN);
        check.due("come", x.come(0, 1), BuyersArm.UNKNOWN);
        check.due("keeper", x.keeper(0, true), BuyersArm.UNKNOWN);
        check.due("when", x.when(0, 0, 0, 0), BuyersArm.UNKNOWN);
        check.due("losers of 1", x.losers(1), 0);
        check.due("losers of 99", x.losers(99), 0);
        check.due("fairest", x.fairest(), 1);
        check.due("earned", x.earned(1, 99, 0), 100000);
        check.due("ask", x.ask(99, 0), 1);
        check.due("left over", x.cut(999, 0, false), 999);
        check.due("ells", x.cut(999, 0, true), 0);
    }

    private static void nothingAtFirst() {
        check.sentence("BuyersArm(): Nobody, nothing");
        BuyersArm x = new BuyersArm();
        int[] counts = {0, 0, 0, 0, 0, 30, 0};
        for (int what = 0; what < counts.length; what++) {
            check.due("count " + what, x.count(what), counts[what]);
        }
        check.due("fault", x.fault(), BuyersArm.NONE);
        check.due("sale", x.sale(0, 0), BuyersArm.NONE);
        check.due("undo", x.undo(), BuyersArm.LATE);
        check.due("unchange", x.unchange(), 0);
        check.due("unheld", x.unheld(), 0);
        check.due("mayBe", x.mayBe(), 8000);
        check.due("again 0", x.again(0), BuyersArm.LATE);
        check.due("again 1", x.again(1), BuyersArm.LATE);
        check.due("wipe", x.wipe(), 0);
        check.due("market", x.market(), 0);
        check.due("common", x.common(30), 30);
        // One object has nothing to do with another one.
        Check.with(FULL_MARKET).common(77);
        check.due("still nobody", new BuyersArm().count(0), 0);
        check.due("still 30", new BuyersArm().count(5), 30);
    }

    private static void whichPeople() {
        check.sentence("PEOPLE are 0 .. 5; UNKNOWN -1 (there is no such PERSON ..)");
        for (int n = 0; n <= 6; n++) {
            BuyersArm x = Check.with(FULL_MARKET.substring(0, 5 * n) + "C010000");
            for (int i = 0; i < 8; i++) {
                int arm = i == 5 ? 99 : i + 1;
                check.due("arm " + i + " of " + n, x.person(i, 0), i < n ? arm : BuyersArm.UNKNOWN);
                check.due("barred " + i + " of " + n, x.barred(i, 0), i < n ? 0 : BuyersArm.UNKNOWN);
                check.due("come " + i + " of " + n, x.come(i, 3), i < n ? 0 : BuyersArm.UNKNOWN);
                check.due("keeper " + i + " of " + n, x.keeper(i, true), i < n ? 1 : BuyersArm.UNKNOWN);
                check.due("when " + i + " of " + n, x.when(i, 0, 0, 0), i < n ? 0 : BuyersArm.UNKNOWN);
                check.due("ringAt " + i + " of " + n, x.ringAt(i, 0), i < n ? BuyersArm.NONE : BuyersArm.UNKNOWN);
                check.due("plaster " + i + " of " + n, x.plaster(i, arm), i < n ? arm : BuyersArm.UNKNOWN);
            }
            for (int i : FAR) {
                check.due("person " + i + " of " + n, x.person(i, 0), BuyersArm.UNKNOWN);
            }
        }
    }

    private static void whichCounters() {
        check.sentence("COUNTERS 0 .. 3; UNKNOWN -1 (there is no such .. COUNTER ..)");
        for (int n = 0; n <= 4; n++) {
            BuyersArm x = Check.with("A0100" + FULL_MARKET.substring(30, 30 + 7 * n));
            int[] prices = {1, 2, 3, 99};
            for (int c = 0; c < 6; c++) {
                check.due("price " + c + " of " + n, x.counter(c, 0), c < n ? prices[c] : BuyersArm.UNKNOWN);
                check.due("barred " + c + " of " + n, x.barred(0, c), c < n ? 0 : BuyersArm.UNKNOWN);
                check.due("truly " + c + " of " + n, x.truly(0, c, true), c < n ? prices[c] : BuyersArm.UNKNOWN);
                check.due("when " + c + " of " + n, x.when(0, c, 0, 0), c < n ? 0 : BuyersArm.UNKNOWN);
                check.due("cheapest " + c + " of " + n, x.cheapest(c, 999),
                    c >= n ? BuyersArm.UNKNOWN : c == 1 ? 1998 : BuyersArm.NONE);
            }
            for (int c : FAR) {
                check.due("counter " + c + " of " + n, x.counter(c, 0), BuyersArm.UNKNOWN);
            }
        }
    }

    private static void whatOfAPerson() {
        check.sentence("Of a PERSON ARM (what = 0) .. 1 of a KEEPER (5). UNKNOWN; BAD");
        BuyersArm x = Check.with(FULL_MARKET);
        int[] due = {99, 4, 0, 0, 0, 0};
        for (int what = 0; what < due.length; what++) {
            check.due("what " + what, x.person(5, what), due[what]);
        }
        int[] bad = {6, 7, -1, -2, Integer.MIN_VALUE, Integer.MAX_VALUE};
        for (int what : bad) {
            check.due("what " + what, x.person(5, what), BuyersArm.BAD);
            check.due("UNKNOWN is ahead of BAD " + what, x.person(6, what), BuyersArm.UNKNOWN);
            check.due("UNKNOWN is ahead of BAD " + what, x.person(-1, what), BuyersArm.UNKNOWN);
        }
    }

    private static void whatOfACounter() {
        check.sentence("Of a COUNTER PRICE (what = 0) .. what it LOST, and 1000000 (4). UNKNOWN; BAD");
        BuyersArm x = Check.with(FULL_MARKET);
        int[] due = {99, 4, 0, 0, 1000000};
        for (int what = 0; what < due.length; what++) {
            check.due("what " + what, x.counter(3, what), due[what]);
        }
        int[] bad = {5, 6, -1, -2, Integer.MIN_VALUE, Integer.MAX_VALUE};
        for (int what : bad) {
            check.due("what " + what, x.counter(3, what), BuyersArm.BAD);
            check.due("UNKNOWN is ahead of BAD " + what, x.counter(4, what), BuyersArm.UNKNOWN);
            check.due("UNKNOWN is ahead of BAD " + what, x.counter(-1, what), BuyersArm.UNKNOWN);
        }
    }

    private static void greatestSums() {
        check.sentence("coins spent in SALES (2), parts got in them (3); coins that it took in SALES (2), ELLS sold (3)");
        BuyersArm x = Check.with("A0100A0800C999999C999999");
        for (int i = 0; i < 12; i++) {
            check.due("buy " + i, x.buy(1, 1, 99), 792);
        }
        check.due("spent", x.person(1, 2), 12 * 99 * 99);
        check.due("got", x.person(1, 3), 12 * 792);
        check.due("spent by the other", x.person(0, 2), 0);
        check.due("got by the other", x.person(0, 3), 0);
        check.due("took", x.counter(1, 2), 12 * 99 * 99);
        check.due("sold", x.counter(1, 3), 12 * 99);
        check.due("stock", x.counter(1, 1), 9999 - 12 * 792);
        check.due("took by the other", x.counter(0, 2), 0);
        check.due("sold by the other", x.counter(0, 3), 0);
        check.due("stock of the other", x.counter(0, 1), 9999);
        check.due("lost by the other", x.counter(0, 4), 1000000);
    }

    private static void leastSums() {
        check.sentence("STOCK (1) .. all of it sold, and none");
        BuyersArm x = Check.with("A9900C010000C999999");
        check.due("nothing to sell", x.buy(0, 0, 1), BuyersArm.LATE);
        check.due("99 ells", x.buy(0, 1, 99), 9801);
        check.due("two ells", x.buy(0, 1, 2), 198);
        check.due("all is sold", x.counter(1, 1), 0);
        check.due("got", x.person(0, 3), 9999);
        check.due("nothing more", x.buy(0, 1, 1), BuyersArm.LATE);
        check.due("took", x.counter(1, 2), 101 * 99);
        check.due("sold nothing", x.counter(0, 3), 0);
    }

    private static void lostByCommonElls() {
        check.sentence("the COUNTER LOSES n times what the ARM of then is more than THE COMMON ELL of now");
        BuyersArm x = Check.with("A0100C010000C999999");
        for (int i = 0; i < 12; i++) {
            x.buy(0, 1, 99);
        }
        x.common(99);
        check.due("the least", x.counter(1, 4), 1000000 - 12 * 99 * 98);
        x.common(1);
        check.due("none", x.counter(1, 4), 1000000);
        BuyersArm y = Check.with("A9900C019999");
        y.buy(0, 0, 99);
        y.buy(0, 0, 2);
        y.common(1);
        check.due("the most", y.counter(0, 4), 1000000 + 101 * 98);
        y.common(99);
        check.due("none", y.counter(0, 4), 1000000);
        y.common(98);
        check.due("one an ell", y.counter(0, 4), 1000101);
        y.plaster(0, 1);
        check.due("the arm of then", y.counter(0, 4), 1000101);
        y.undo();
        check.due("undone", y.counter(0, 4), 1000099);
    }

    private static void whoIsBarred() {
        check.sentence("Whether one is BARRED: 1, 0. UNKNOWN");
        BuyersArm x = Check.with(FULL_MARKET);
        for (int i = 0; i < 6; i++) {
            for (int c = 0; c < 4; c++) {
                boolean is = "00 53 31 30".contains("" + i + c);
                check.due("barred " + i + " " + c, x.barred(i, c), is ? 1 : 0);
            }
            check.due("counter 4", x.barred(i, 4), BuyersArm.UNKNOWN);
            check.due("counter -1", x.barred(i, -1), BuyersArm.UNKNOWN);
        }
        for (int far : FAR) {
            check.due("person " + far, x.barred(far, 0), BuyersArm.UNKNOWN);
            check.due("counter " + far, x.barred(0, far), BuyersArm.UNKNOWN);
            check.due("both " + far, x.barred(far, far), BuyersArm.UNKNOWN);
        }
        check.due("person 6", x.barred(6, 0), BuyersArm.UNKNOWN);
    }

    private static void plasterBounds() {
        check.sentence("PLASTER: a PERSON's ARM is otherwise (1 .. 99): the ARM that was. UNKNOWN; BAD");
        BuyersArm x = Check.with(FULL_MARKET);
        int[] bad = {0, 100, -1, -99, 101, Integer.MIN_VALUE, Integer.MAX_VALUE};
        for (int arm : bad) {
            check.due("plaster " + arm, x.plaster(5, arm), BuyersArm.BAD);
            check.due("as it was", x.person(5, 0), 99);
            check.due("UNKNOWN is ahead of BAD", x.plaster(6, arm), BuyersArm.UNKNOWN);
            check.due("UNKNOWN is ahead of BAD", x.plaster(-1, arm), BuyersArm.UNKNOWN);
        }
        for (int far : FAR) {
            check.due("plaster of " + far, x.plaster(far, 1), BuyersArm.UNKNOWN);
        }
        check.due("plaster 1", x.plaster(5, 1), 99);
        check.due("plaster 99", x.plaster(5, 99), 1);
        check.due("plaster 99 again", x.plaster(5, 99), 99);
        check.due("the first one", x.plaster(0, 99), 1);
        check.due("it is", x.person(0, 0), 99);
        int[] others = {2, 3, 4, 5};
        for (int i = 0; i < others.length; i++) {
            check.due("the others", x.person(i + 1, 0), others[i]);
        }
    }

    private static void plasterLeavesSales() {
        check.sentence("(SALES that were made stay as they were.)");
        BuyersArm x = Check.with("A1000C070100");
        x.buy(0, 0, 4);
        x.plaster(0, 99);
        check.due("parts", x.sale(0, 3), 40);
        check.due("ells", x.sale(0, 2), 4);
        check.due("got", x.person(0, 3), 40);
        check.due("spent", x.person(0, 2), 28);
        check.due("stock", x.counter(0, 1), 60);
        check.due("lost", x.counter(0, 4), 1000000 - 80);
        check.due("what it buys now", x.buy(0, 0, 1), BuyersArm.LATE);
        check.due("undo", x.undo(), 0);
        check.due("stock", x.counter(0, 1), 100);
        check.due("the arm stays", x.person(0, 0), 99);
        check.due("what it buys now", x.buy(0, 0, 1), 99);
    }

    private static void commonBounds() {
        check.sentence("THE COMMON ELL is 1 .. 99 (30 at first): what it was. BAD");
        BuyersArm x = new BuyersArm();
        int[] bad = {0, 100, -1, -30, 101, Integer.MIN_VALUE, Integer.MAX_VALUE};
        for (int e : bad) {
            check.due("common " + e, x.common(e), BuyersArm.BAD);
            check.due("as it was", x.count(5), 30);
        }
        check.due("common 1", x.common(1), 30);
        check.due("told", x.count(5), 1);
        check.due("common 99", x.common(99), 1);
        check.due("told", x.count(5), 99);
        check.due("common 100", x.common(100), BuyersArm.BAD);
        check.due("common 99 again", x.common(99), 99);
    }

    private static void whatIsCounted() {
        check.sentence("0 PEOPLE .. 6 bytes of THE TEXT. BAD");
        BuyersArm x = Check.with(FULL_MARKET);
        for (int i = 0; i < 12; i++) {
            x.buy(0, 1, 1);
        }
        for (int i = 0; i < 8; i++) {
            x.exchange(0, 1, 1, 1, 1);
            x.held(0, 1, 1, 1, 0);
        }
        x.common(99);
        x.write(2, 0);
        int[] most = {6, 4, 12, 8, 8, 99, 72};
        for (int what = 0; what < most.length; what++) {
            check.due("count " + what, x.count(what), most[what]);
        }
        int[] bad = {7, 8, -1, -2, Integer.MIN_VALUE, Integer.MAX_VALUE};
        for (int what : bad) {
            check.due("count " + what, x.count(what), BuyersArm.BAD);
        }
    }

    private static void theLastOfItsCalls() {
        check.sentence("An object is used for at most 512 calls after it has been made");
        // Four calls tell the market: the text is wiped, comes in two, and is made one.
        BuyersArm x = Check.with("A0100C019999");
        for (int calls = 5; calls < 511; calls += 2) {
            check.due("buy, call " + calls, x.buy(0, 0, 99), 99);
            check.due("undo, call " + (calls + 1), x.undo(), 0);
        }
        check.due("got, call 511", x.person(0, 3), 0);
        check.due("stock, call 512", x.counter(0, 1), 9999);
    }
}
