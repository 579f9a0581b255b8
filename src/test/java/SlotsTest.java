/** Promises 33 to 35. */
public final class SlotsTest {
    private static final Check check = new Check();

    public static void main(String[] args) {
        keepAndAgain();
        whatIsNotKept();
        twoSlots();
        refusals();
        count();
        check.end();
    }

    private static void keepAndAgain() {
        BuyersArm x = Check.with("A1000A2000C050900C060800");
        x.buy(0, 0, 3);
        x.plaster(0, 11);
        x.buy(1, 1, 4);
        x.common(40);
        check.due("keep", x.keep(1), 2);
        x.undo();
        x.undo();
        x.plaster(0, 77);
        x.plaster(1, 78);
        x.common(50);
        x.buy(1, 0, 1);
        x.buy(1, 0, 2);
        x.buy(1, 0, 3);
        check.due("again", x.again(1), 2);
        check.due("sales", x.count(2), 2);
        check.due("arm 0", x.person(0, 0), 11);
        check.due("arm 1", x.person(1, 0), 20);
        check.due("stock 0", x.counter(0, 1), 870);
        check.due("stock 1", x.counter(1, 1), 720);
        check.due("common ell", x.count(5), 40);
        int[] first = {0, 0, 3, 30};
        int[] second = {1, 1, 4, 80};
        for (int what = 0; what < 4; what++) {
            check.due("sale 0 " + what, x.sale(0, what), first[what]);
            check.due("sale 1 " + what, x.sale(1, what), second[what]);
        }
        // What was kept is not changed by what comes behind.
        x.undo();
        x.buy(0, 0, 9);
        x.plaster(1, 1);
        check.due("again", x.again(1), 2);
        check.due("sale 1", x.sale(1, 2), 4);
        check.due("arm 1", x.person(1, 0), 20);
        check.due("stock 0", x.counter(0, 1), 870);
    }

    private static void whatIsNotKept() {
        BuyersArm x = Check.with("A1000C050900");
        x.keep(0);
        x.come(0, 5);
        x.keeper(0, true);
        x.exchange(0, 1, 1, 1, 1);
        x.held(0, 1, 1, 1, 0);
        x.wipe();
        check.due("again", x.again(0), 0);
        check.due("comers", x.person(0, 4), 5);
        check.due("keeper", x.person(0, 5), 1);
        check.due("exchanges", x.count(3), 1);
        check.due("held", x.count(4), 1);
        check.due("text", x.count(6), 0);
    }

    private static void twoSlots() {
        BuyersArm x = Check.with("A1000C050900");
        check.due("keep 0", x.keep(0), 0);
        check.due("none in 1", x.again(1), BuyersArm.LATE);
        x.buy(0, 0, 1);
        check.due("keep 1", x.keep(1), 1);
        check.due("again 0", x.again(0), 0);
        check.due("stock", x.counter(0, 1), 900);
        check.due("again 1", x.again(1), 1);
        check.due("stock", x.counter(0, 1), 890);
        check.due("keep 0 over it", x.keep(0), 1);
        x.undo();
        check.due("again 0", x.again(0), 1);
        // Nobody and nothing can be kept too.
        BuyersArm empty = new BuyersArm();
        empty.common(9);
        check.due("keep", empty.keep(0), 0);
        empty.common(10);
        check.due("again", empty.again(0), 0);
        check.due("common", empty.count(5), 9);
    }

    private static void refusals() {
        BuyersArm x = Check.with("A1000C050900");
        int[] slots = {-1, 2, Integer.MIN_VALUE, Integer.MAX_VALUE};
        for (int slot : slots) {
            check.due("keep " + slot, x.keep(slot), BuyersArm.UNKNOWN);
            check.due("again " + slot, x.again(slot), BuyersArm.UNKNOWN);
        }
        x.buy(0, 0, 1);
        check.due("none kept", x.again(0), BuyersArm.LATE);
        check.due("nothing changes", x.count(2), 1);
    }

    private static void count() {
        BuyersArm x = Check.with("A1000A2000A3000C050900C050900");
        x.buy(0, 0, 1);
        for (int i = 0; i < 4; i++) {
            x.exchange(0, 1, 1, 1, 1);
        }
        for (int i = 0; i < 5; i++) {
            x.held(0, 1, 1, 1, 0);
        }
        x.common(66);
        int[] due = {3, 2, 1, 4, 5, 66, 29};
        for (int what = 0; what < due.length; what++) {
            check.due("count " + what, x.count(what), due[what]);
        }
        check.due("count 7", x.count(7), BuyersArm.BAD);
        check.due("count -1", x.count(-1), BuyersArm.BAD);
    }
}
