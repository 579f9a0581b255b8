/** The edges of SLOTS and of promises 33 and 34. */
public final class SlotsEdgesTest {
    private static final Check check = new Check();

    public static void main(String[] args) {
        whichSlots();
        noneWereKept();
        nobodyIsKept();
        noneAndTwelveSales();
        allTwelveAreKept();
        eachSlotItsOwn();
        keptOver();
        keptIsApart();
        armsStocksSalesCommonEll();
        whatIsNotKept();
        goneWithTheMarket();
        undoneBehindAgain();
        refusedOnesChangeNothing();
        check.end();
    }

    private static void whichSlots() {
        check.sentence("SLOTS 0 .. 1; UNKNOWN (there is no such .. SLOT)");
        BuyersArm x = Check.with("A1000C019999");
        int[] far = {2, -1, 3, Integer.MIN_VALUE, Integer.MAX_VALUE};
        for (int turn = 0; turn < 2; turn++) {
            for (int slot : far) {
                check.due("keep " + slot, x.keep(slot), BuyersArm.UNKNOWN);
                // UNKNOWN is ahead of LATE.
                check.due("again " + slot, x.again(slot), BuyersArm.UNKNOWN);
            }
            check.due("keep 0", x.keep(0), turn);
            check.due("keep 1", x.keep(1), turn);
            x.buy(0, 0, 1);
        }
        check.due("again 0", x.again(0), 1);
        check.due("again 1", x.again(1), 1);
    }

    private static void noneWereKept() {
        check.sentence("LATE: none were kept");
        BuyersArm x = new BuyersArm();
        check.due("slot 0", x.again(0), BuyersArm.LATE);
        check.due("slot 1", x.again(1), BuyersArm.LATE);
        x.keep(1);
        check.due("slot 0 still", x.again(0), BuyersArm.LATE);
        check.due("slot 1", x.again(1), 0);
        BuyersArm y = new BuyersArm();
        y.keep(0);
        check.due("slot 1 still", y.again(1), BuyersArm.LATE);
        check.due("slot 0", y.again(0), 0);
    }

    private static void nobodyIsKept() {
        check.sentence("They are kept: how many SALES (of nobody, nothing)");
        BuyersArm x = new BuyersArm();
        x.common(7);
        check.due("keep", x.keep(0), 0);
        x.common(8);
        check.due("again", x.again(0), 0);
        check.due("common", x.count(5), 7);
        check.due("nobody", x.count(0), 0);
    }

    private static void noneAndTwelveSales() {
        check.sentence("They are as they were kept: how many SALES (none, twelve)");
        BuyersArm x = Check.with("A0100C019999");
        check.due("keep none", x.keep(0), 0);
        for (int i = 0; i < 12; i++) {
            x.buy(0, 0, i + 1);
        }
        check.due("keep twelve", x.keep(1), 12);
        check.due("none again", x.again(0), 0);
        check.due("none", x.count(2), 0);
        check.due("no sale", x.sale(0, 2), BuyersArm.NONE);
        check.due("undo", x.undo(), BuyersArm.LATE);
        check.due("stock", x.counter(0, 1), 9999);
        check.due("buy", x.buy(0, 0, 50), 50);
        check.due("twelve again", x.again(1), 12);
        check.due("twelve", x.count(2), 12);
        check.due("the 13th", x.buy(0, 0, 1), BuyersArm.FULL);
        check.due("stock", x.counter(0, 1), 9999 - 78);
        for (int i = 0; i < 12; i++) {
            check.due("sale " + i, x.sale(i, 2), i + 1);
            check.due("sale " + i, x.sale(i, 3), i + 1);
        }
    }

    private static void allTwelveAreKept() {
        check.sentence("They are as they were kept: each of twelve SALES, though twelve others came behind it");
        BuyersArm x = Check.with("A0100A0200C019999C019999");
        for (int i = 0; i < 12; i++) {
            x.buy(i % 2, i / 2 % 2, i + 1);
        }
        for (int slot = 0; slot < 2; slot++) {
            check.due("keep", x.keep(slot), 12);
            for (int i = 0; i < 12; i++) {
                x.undo();
            }
            for (int i = 0; i < 12; i++) {
                x.buy((i + 1) % 2, (i / 2 + 1) % 2, i + 51);
            }
            check.due("again", x.again(slot), 12);
            for (int i = 0; i < 12; i++) {
                check.due("person of " + i, x.sale(i, 0), i % 2);
                check.due("counter of " + i, x.sale(i, 1), i / 2 % 2);
                check.due("ells of " + i, x.sale(i, 2), i + 1);
                check.due("parts of " + i, x.sale(i, 3), (i + 1) * (i % 2 + 1));
            }
        }
    }

    private static void eachSlotItsOwn() {
        check.sentence("SLOTS 0 .. 1 keep");
        BuyersArm x = Check.with("A1000C019999");
        x.plaster(0, 11);
        x.keep(0);
        x.plaster(0, 22);
        x.keep(1);
        x.plaster(0, 33);
        check.due("again 0", x.again(0), 0);
        check.due("arm", x.person(0, 0), 11);
        check.due("again 1", x.again(1), 0);
        check.due("arm", x.person(0, 0), 22);
        check.due("again 0", x.again(0), 0);
        check.due("arm", x.person(0, 0), 11);
        check.due("again 0 twice", x.again(0), 0);
        check.due("arm", x.person(0, 0), 11);
    }

    private static void keptOver() {
        check.sentence("They are kept: what was kept there before is no more");
        BuyersArm x = Check.with("A1000C019999");
        x.buy(0, 0, 1);
        x.buy(0, 0, 2);
        check.due("keep", x.keep(0), 2);
        x.undo();
        x.common(9);
        check.due("keep over it", x.keep(0), 1);
        x.undo();
        x.common(10);
        check.due("again", x.again(0), 1);
        check.due("common", x.count(5), 9);
        check.due("the sale", x.sale(0, 2), 1);
        check.due("no other one", x.sale(1, 2), BuyersArm.NONE);
    }

    private static void keptIsApart() {
        check.sentence("They are as they were kept, whatever came behind it");
        BuyersArm x = Check.with("A1000A2000C019999C019999");
        x.buy(0, 0, 1);
        x.keep(0);
        for (int turn = 0; turn < 3; turn++) {
            x.undo();
            x.buy(1, 1, 5);
            x.buy(1, 0, 6);
            x.plaster(0, 90 + turn);
            x.plaster(1, 80 + turn);
            x.common(70 + turn);
            check.due("again", x.again(0), 1);
            check.due("arm 0", x.person(0, 0), 10);
            check.due("arm 1", x.person(1, 0), 20);
            check.due("stock 0", x.counter(0, 1), 9989);
            check.due("stock 1", x.counter(1, 1), 9999);
            check.due("common", x.count(5), 30);
            int[] sale = {0, 0, 1, 10};
            for (int what = 0; what < 4; what++) {
                check.due("sale " + what, x.sale(0, what), sale[what]);
            }
        }
    }

    private static void armsStocksSalesCommonEll() {
        check.sentence("SLOTS keep ARMS, STOCKS, SALES, THE COMMON ELL");
        BuyersArm x = Check.with("A0100A0200A0300A0400A0500A0600C011000C022000C033000C044000");
        for (int i = 0; i < 6; i++) {
            x.buy(i, i % 4, 10 + i);
            x.plaster(i, 99 - i);
        }
        x.common(1);
        x.keep(1);
        for (int i = 0; i < 6; i++) {
            x.plaster(i, 50);
            x.buy(i, 3 - i % 4, 1);
        }
        x.common(99);
        check.due("again", x.again(1), 6);
        for (int i = 0; i < 6; i++) {
            check.due("arm " + i, x.person(i, 0), 99 - i);
            check.due("person of " + i, x.sale(i, 0), i);
            check.due("counter of " + i, x.sale(i, 1), i % 4);
            check.due("ells of " + i, x.sale(i, 2), 10 + i);
            check.due("parts of " + i, x.sale(i, 3), (10 + i) * (i + 1));
            check.due("got by " + i, x.person(i, 3), (10 + i) * (i + 1));
        }
        int[] stocks = {1000 - 10 - 70, 2000 - 22 - 90, 3000 - 36, 4000 - 52};
        for (int c = 0; c < 4; c++) {
            check.due("stock " + c, x.counter(c, 1), stocks[c]);
        }
        check.due("common", x.count(5), 1);
        check.due("lost", x.counter(3, 4), 1000000 + 52 - 13);
    }

    private static void whatIsNotKept() {
        check.sentence("SLOTS keep (no more than) ARMS, STOCKS, SALES, THE COMMON ELL");
        BuyersArm x = Check.with("A1000A2000C019999");
        x.come(0, 1);
        x.keeper(0, true);
        x.exchange(0, 1, 1, 1, 1);
        x.held(0, 1, 1, 1, 0);
        x.keep(0);
        x.come(0, 2);
        x.come(1, 3);
        x.keeper(0, false);
        x.keeper(1, true);
        x.exchange(1, 0, 1, 1, 1);
        x.held(1, 1, 2, 1, 0);
        x.write(1, 'A');
        check.due("again", x.again(0), 0);
        check.due("comers 0", x.person(0, 4), 2);
        check.due("comers 1", x.person(1, 4), 3);
        check.due("keeper 0", x.person(0, 5), 0);
        check.due("keeper 1", x.person(1, 5), 1);
        check.due("exchanges", x.count(3), 2);
        check.due("held", x.count(4), 2);
        check.due("rows", x.mayBe(), 20);
        check.due("bytes", x.count(6), 18);
        x.unchange();
        x.unheld();
        x.wipe();
        check.due("again", x.again(0), 0);
        check.due("exchanges", x.count(3), 0);
        check.due("held", x.count(4), 0);
        check.due("bytes", x.count(6), 0);
    }

    private static void goneWithTheMarket() {
        check.sentence("what was kept is gone");
        BuyersArm x = Check.with("A1000C019999");
        x.common(50);
        x.keep(0);
        x.keep(1);
        x.write(1, 'A');
        check.due("no market", x.market(), BuyersArm.LATE);
        check.due("slot 0 stays", x.again(0), 0);
        check.due("slot 1 stays", x.again(1), 0);
        x.wipe();
        check.due("wiped, it stays", x.again(0), 0);
        check.due("market", x.market(), 0);
        check.due("slot 0", x.again(0), BuyersArm.LATE);
        check.due("slot 1", x.again(1), BuyersArm.LATE);
        check.due("common stays", x.count(5), 50);
        x.keep(1);
        check.due("slot 0 still", x.again(0), BuyersArm.LATE);
        check.due("slot 1 anew", x.again(1), 0);
    }

    private static void undoneBehindAgain() {
        check.sentence("They are as they were kept: SALES that can be undone");
        BuyersArm x = Check.with("A1000C010100");
        x.buy(0, 0, 2);
        x.plaster(0, 40);
        x.buy(0, 0, 2);
        check.due("keep", x.keep(0), 2);
        x.undo();
        x.undo();
        check.due("again", x.again(0), 2);
        check.due("nothing is left", x.counter(0, 1), 0);
        check.due("undo", x.undo(), 1);
        check.due("stock", x.counter(0, 1), 80);
        check.due("undo", x.undo(), 0);
        check.due("stock", x.counter(0, 1), 100);
        check.due("undo", x.undo(), BuyersArm.LATE);
        check.due("again", x.again(0), 2);
    }

    private static void refusedOnesChangeNothing() {
        check.sentence("What is refused changes nothing");
        BuyersArm x = Check.with("A1000C010100");
        x.buy(0, 0, 3);
        x.keep(0);
        x.plaster(0, 5);
        x.common(77);
        x.buy(0, 0, 4);
        int[] refused = {1, 2, -1};
        for (int slot : refused) {
            check.holds("again " + slot, x.again(slot) < 0);
            check.due("sales", x.count(2), 2);
            check.due("arm", x.person(0, 0), 5);
            check.due("stock", x.counter(0, 1), 50);
            check.due("common", x.count(5), 77);
        }
        check.due("keep 2", x.keep(2), BuyersArm.UNKNOWN);
        check.due("keep -1", x.keep(-1), BuyersArm.UNKNOWN);
        check.due("slot 1 still", x.again(1), BuyersArm.LATE);
        check.due("slot 0 as it was", x.again(0), 1);
        check.due("arm", x.person(0, 0), 10);
        check.due("stock", x.counter(0, 1), 70);
        check.due("common", x.count(5), 30);
    }
}
