/** Promises 1 to 10. */
public final class MarketTest {
    private static final Check check = new Check();

    public static void main(String[] args) {
        newObject();
        write();
        wipe();
        faultsOfPeople();
        faultsOfCounters();
        faultsOfBars();
        market();
        marketAnew();
        person();
        counter();
        barred();
        plaster();
        common();
        check.end();
    }

    private static void newObject() {
        BuyersArm x = new BuyersArm();
        int[] counts = {0, 0, 0, 0, 0, 30, 0};
        for (int what = 0; what < counts.length; what++) {
            check.due("new count " + what, x.count(what), counts[what]);
        }
        check.due("new person", x.person(0, 0), BuyersArm.UNKNOWN);
        check.due("new counter", x.counter(0, 0), BuyersArm.UNKNOWN);
        check.due("new sale", x.sale(0, 0), BuyersArm.NONE);
        check.due("new fault", x.fault(), BuyersArm.NONE);
        check.due("new again 0", x.again(0), BuyersArm.LATE);
        check.due("new again 1", x.again(1), BuyersArm.LATE);
        check.due("new mayBe", x.mayBe(), 8000);
        check.due("new losers", x.losers(50), 0);
        check.due("new earned", x.earned(1, 1, 1), 100000);
    }

    private static void write() {
        BuyersArm x = new BuyersArm();
        check.due("write 0", x.write(0, 65), BuyersArm.BAD);
        check.due("write 9", x.write(9, 65), BuyersArm.BAD);
        check.due("write -1", x.write(-1, 65), BuyersArm.BAD);
        check.due("write least int", x.write(Integer.MIN_VALUE, 65), BuyersArm.BAD);
        check.due("write greatest int", x.write(Integer.MAX_VALUE, 65), BuyersArm.BAD);
        // Only the lowest n bytes count, the highest of these first.
        check.due("write 1", x.write(1, 0x1234_5678_9abc_de41L), 1);
        check.due("write 2", x.write(2, 0x3132L), 3);
        check.due("write 2", x.write(2, 0x3435L), 5);
        check.due("market", x.market(), 1);
        check.due("arm", x.person(0, 0), 12);
        check.due("fee", x.person(0, 1), 45);
        check.due("write 8", x.write(8, 0xffff_ffff_ffff_ffffL), 13);
        check.due("fault of a high byte", x.fault(), 5);
        for (int i = 0; i < 7; i++) {
            x.write(8, 0);
        }
        check.due("length", x.count(6), 69);
        check.due("write over 72", x.write(4, 0), BuyersArm.FULL);
        check.due("BAD is ahead of FULL", x.write(9, 0), BuyersArm.BAD);
        check.due("nothing came", x.count(6), 69);
        check.due("write to 72", x.write(3, 0), 72);
        check.due("write at 72", x.write(1, 0), BuyersArm.FULL);
    }

    private static void wipe() {
        BuyersArm x = new BuyersArm();
        check.due("wipe of nothing", x.wipe(), 0);
        x.write(3, 0x414141);
        check.due("wipe", x.wipe(), 3);
        check.due("length", x.count(6), 0);
        check.due("fault", x.fault(), BuyersArm.NONE);
        check.due("wipe again", x.wipe(), 0);
    }

    private static void fault(String text, int want) {
        BuyersArm x = new BuyersArm();
        Check.tell(x, text);
        check.due("fault of " + text, x.fault(), want);
        int market = x.market();
        if (want == BuyersArm.NONE) {
            check.holds("market of " + text, market >= 0);
        } else {
            check.due("market of " + text, market, BuyersArm.LATE);
        }
    }

    private static void faultsOfPeople() {
        fault("", BuyersArm.NONE);
        fault("A", 1);
        fault("A0", 2);
        fault("A00", 2);
        fault("A0000", 2);
        fault("A01", 3);
        fault("A010", 4);
        fault("A0100", BuyersArm.NONE);
        fault("A1000", BuyersArm.NONE);
        fault("A9999", BuyersArm.NONE);
        fault("a0100", 0);
        fault("B", 0);
        fault("0", 0);
        fault(" A0100", 0);
        fault("A01 0", 3);
        fault("A01:0", 3);
        fault("A01/0", 3);
        fault("A0/00", 2);
        fault("AA", 1);
        fault("A0100 ", 5);
        fault("A0100" + (char) 0, 5);
        fault("A0100" + (char) 193, 5);
        fault("A01" + (char) 176 + "0", 3);
        String five = "A0101A0202A0303A0404A0505";
        fault(five + "A0606", BuyersArm.NONE);
        fault(five + "A06", 28);
        fault(five + "A0606A0707", 30);
        fault(five + "A0606A", 30);
        fault(five + "A0606C01000", 36);
        fault(five + "A0606C010000", BuyersArm.NONE);
    }

    private static void faultsOfCounters() {
        fault("C", 1);
        fault("C0", 2);
        fault("C00", 2);
        fault("C01", 3);
        fault("C01000", 6);
        fault("C010000", BuyersArm.NONE);
        fault("C999999", BuyersArm.NONE);
        fault("C01000A", 6);
        fault("C01000N", 6);
        fault("C1x", 2);
        String four = "C010001C020002C030003C040004";
        fault(four, BuyersArm.NONE);
        fault(four + "C", 28);
        fault(four + "A0101", BuyersArm.NONE);
        fault(four + "c", 28);
    }

    private static void faultsOfBars() {
        fault("N", 0);
        fault("A0100N00", 5);
        fault("C010000N00", 7);
        fault("N00A0100C010000", 0);
        fault("A0100C010000N", 13);
        fault("A0100C010000N0", 14);
        fault("A0100C010000N00", BuyersArm.NONE);
        fault("C010000A0100N00", BuyersArm.NONE);
        fault("A0100C010000N10", 13);
        fault("A0100C010000N01", 14);
        fault("A0100C010000Nx0", 13);
        fault("A0100C010000N0x", 14);
        // Where every pair is barred, no bar can come; behind another person one can.
        fault("A0100C010000N00N", 15);
        fault("A0100C010000N00N00", 15);
        fault("A0100C010000N00A0100N", 21);
        fault("A0100C010000N00A0100N00", 21);
        fault("A0100C010000N00A0100N10", BuyersArm.NONE);
        fault("A0100C010000N00C010000N00", 24);
        fault("A0100C010000N00C010000N01", BuyersArm.NONE);
        fault("A0100A0100C010000C010000N11N10N1", 31);
        fault("A0100A0100C010000C010000N11N10N0", 32);
        fault("A0100A0100C010000C010000N11N10N01N00N", 36);
        fault("A0100A0100C010000C010000N11N11", 29);
        // The length of 72 is set aside.
        StringBuilder whole = new StringBuilder("A0100A0100A0100A0100A0100A0100C010000C010000C010000C010000");
        whole.append("N00N01N53N42N");
        fault(whole.toString(), 71);
        fault(whole + "3", 72);
    }

    private static void market() {
        BuyersArm x = new BuyersArm();
        check.due("market of nothing", x.market(), 0);
        Check.tell(x, "A3005C070400A1802N01");
        check.due("market with a fault", x.market(), BuyersArm.LATE);
        check.due("nobody still", x.count(0), 0);
        check.due("nothing still", x.count(1), 0);
        Check.tell(x, "A3005C070400A1802N10");
        check.due("market", x.market(), 2);
        check.due("the text stays", x.count(6), 20);
        check.due("arm 0", x.person(0, 0), 30);
        check.due("arm 1", x.person(1, 0), 18);
        check.due("fee 1", x.person(1, 1), 2);
        check.due("price", x.counter(0, 0), 7);
        check.due("stock", x.counter(0, 1), 400);
        Check.tell(x, "A5005C0");
        check.due("market with a fault", x.market(), BuyersArm.LATE);
        check.due("fault", x.fault(), 7);
        check.due("arm 0 as it was", x.person(0, 0), 30);
        check.due("people as they were", x.count(0), 2);
        x.wipe();
        check.due("people as they were", x.count(0), 2);
        check.due("market of nothing", x.market(), 0);
        check.due("nobody", x.count(0), 0);
        check.due("nothing", x.count(1), 0);
    }

    private static void marketAnew() {
        BuyersArm x = Check.with("A3005C070400A1802N10");
        x.buy(0, 0, 2);
        x.keep(0);
        x.keep(1);
        x.plaster(0, 77);
        x.common(44);
        x.come(0, 3);
        x.keeper(1, true);
        x.exchange(0, 1, 1, 1, 1);
        x.held(0, 1, 1, 1, 0);
        check.due("market anew", x.market(), 2);
        check.due("no sales", x.count(2), 0);
        check.due("spent", x.person(0, 2), 0);
        check.due("stock as told", x.counter(0, 1), 400);
        check.due("arm as told", x.person(0, 0), 30);
        check.due("no comers", x.person(0, 4), 0);
        check.due("no keeper", x.person(1, 5), 0);
        check.due("nothing kept 0", x.again(0), BuyersArm.LATE);
        check.due("nothing kept 1", x.again(1), BuyersArm.LATE);
        check.due("the common ell stays", x.count(5), 44);
        check.due("exchanges stay", x.count(3), 1);
        check.due("held stays", x.count(4), 1);
        check.due("rows stay", x.mayBe(), 400);
        check.due("barred still", x.barred(1, 0), 1);
        x.come(0, 3);
        x.keeper(1, true);
        x.keep(0);
        x.buy(0, 0, 1);
        x.write(1, 'A');
        check.due("market with a fault", x.market(), BuyersArm.LATE);
        check.due("sales stay", x.count(2), 1);
        check.due("comers stay", x.person(0, 4), 3);
        check.due("keepers stay", x.person(1, 5), 1);
        check.due("kept stays", x.again(0), 0);
        Check.tell(x, "A3005C070400A1802");
        x.market();
        check.due("barred no more", x.barred(1, 0), 0);
        for (int i = 0; i < 3; i++) {
            check.due("no comers", x.person(0, 4), 0);
            check.due("no keeper", x.person(1, 5), 0);
            x.come(0, 3);
            x.keeper(1, true);
            check.due("market anew", x.market(), 2);
        }
    }

    private static void person() {
        BuyersArm x = Check.with("A3005A1899C070400C021000");
        check.due("arm", x.person(1, 0), 18);
        check.due("fee", x.person(1, 1), 99);
        check.due("spent at first", x.person(1, 2), 0);
        check.due("got at first", x.person(1, 3), 0);
        check.due("comers at first", x.person(1, 4), 0);
        check.due("keeper at first", x.person(1, 5), 0);
        x.buy(1, 0, 2);
        x.plaster(1, 20);
        x.buy(1, 1, 3);
        x.buy(0, 1, 1);
        x.come(1, 7);
        x.keeper(1, true);
        check.due("arm of now", x.person(1, 0), 20);
        check.due("spent", x.person(1, 2), 2 * 7 + 3 * 2);
        check.due("got", x.person(1, 3), 2 * 18 + 3 * 20);
        check.due("spent of 0", x.person(0, 2), 2);
        check.due("got of 0", x.person(0, 3), 30);
        check.due("comers", x.person(1, 4), 7);
        check.due("keeper", x.person(1, 5), 1);
        check.due("keeper 0", x.person(0, 5), 0);
        check.due("what 6", x.person(0, 6), BuyersArm.BAD);
        check.due("what -1", x.person(0, -1), BuyersArm.BAD);
        check.due("person 2", x.person(2, 0), BuyersArm.UNKNOWN);
        check.due("person -1", x.person(-1, 0), BuyersArm.UNKNOWN);
        check.due("UNKNOWN is ahead of BAD", x.person(2, 6), BuyersArm.UNKNOWN);
    }

    private static void counter() {
        BuyersArm x = Check.with("A3105A1899C070400C021000");
        check.due("price", x.counter(1, 0), 2);
        check.due("stock", x.counter(1, 1), 1000);
        check.due("took at first", x.counter(1, 2), 0);
        check.due("sold at first", x.counter(1, 3), 0);
        check.due("lost at first", x.counter(1, 4), 1000000);
        x.buy(0, 1, 5);
        x.buy(1, 1, 2);
        x.buy(1, 0, 1);
        check.due("stock", x.counter(1, 1), 1000 - 155 - 36);
        check.due("took", x.counter(1, 2), 14);
        check.due("sold", x.counter(1, 3), 7);
        check.due("lost", x.counter(1, 4), 1000000 + 5 * 1 - 2 * 12);
        check.due("lost at 0", x.counter(0, 4), 1000000 - 12);
        x.plaster(0, 99);
        check.due("lost by the arm of then", x.counter(1, 4), 1000000 + 5 * 1 - 2 * 12);
        x.common(10);
        check.due("lost by the ell of now", x.counter(1, 4), 1000000 + 5 * 21 + 2 * 8);
        check.due("what 5", x.counter(0, 5), BuyersArm.BAD);
        check.due("what -1", x.counter(0, -1), BuyersArm.BAD);
        check.due("counter 2", x.counter(2, 0), BuyersArm.UNKNOWN);
        check.due("counter -1", x.counter(-1, 0), BuyersArm.UNKNOWN);
        check.due("UNKNOWN is ahead of BAD", x.counter(2, 5), BuyersArm.UNKNOWN);
    }

    private static void barred() {
        BuyersArm x = Check.with("A3105A1899C070400C021000N01N10");
        int[] due = {0, 1, 1, 0};
        for (int pair = 0; pair < 4; pair++) {
            check.due("barred " + pair, x.barred(pair / 2, pair % 2), due[pair]);
        }
        check.due("person 2", x.barred(2, 0), BuyersArm.UNKNOWN);
        check.due("counter 2", x.barred(0, 2), BuyersArm.UNKNOWN);
        check.due("person -1", x.barred(-1, 0), BuyersArm.UNKNOWN);
        check.due("counter -1", x.barred(0, -1), BuyersArm.UNKNOWN);
    }

    private static void plaster() {
        BuyersArm x = Check.with("A3105A1899");
        check.due("plaster", x.plaster(1, 99), 18);
        check.due("plaster again", x.plaster(1, 1), 99);
        check.due("arm", x.person(1, 0), 1);
        check.due("other arm", x.person(0, 0), 31);
        check.due("arm 0", x.plaster(1, 0), BuyersArm.BAD);
        check.due("arm 100", x.plaster(1, 100), BuyersArm.BAD);
        check.due("person 2", x.plaster(2, 1), BuyersArm.UNKNOWN);
        check.due("person -1", x.plaster(-1, 1), BuyersArm.UNKNOWN);
        check.due("UNKNOWN is ahead of BAD", x.plaster(2, 0), BuyersArm.UNKNOWN);
        check.due("arm is as it was", x.person(1, 0), 1);
    }

    private static void common() {
        BuyersArm x = new BuyersArm();
        check.due("common", x.common(99), 30);
        check.due("common again", x.common(1), 99);
        check.due("common 0", x.common(0), BuyersArm.BAD);
        check.due("common 100", x.common(100), BuyersArm.BAD);
        check.due("common -1", x.common(-1), BuyersArm.BAD);
        check.due("as it was", x.count(5), 1);
    }
}
