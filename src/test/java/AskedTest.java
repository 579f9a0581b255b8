/** Promises 21 to 28. */
public final class AskedTest {
    private static final Check check = new Check();

    public static void main(String[] args) {
        come();
        earned();
        ask();
        keeper();
        losersAndFairest();
        cut();
        when();
        check.end();
    }

    private static void come() {
        BuyersArm x = Check.with("A2000A4000");
        check.due("come", x.come(1, 9), 0);
        check.due("come again", x.come(1, 0), 9);
        check.due("come 0", x.come(0, 4), 0);
        check.due("comers", x.person(0, 4), 4);
        check.due("n 10", x.come(0, 10), BuyersArm.BAD);
        check.due("n -1", x.come(0, -1), BuyersArm.BAD);
        check.due("person 2", x.come(2, 1), BuyersArm.UNKNOWN);
        check.due("person -1", x.come(-1, 1), BuyersArm.UNKNOWN);
        check.due("UNKNOWN is ahead of BAD", x.come(2, 10), BuyersArm.UNKNOWN);
        check.due("as it was", x.come(0, 4), 4);
    }

    private static void earned() {
        BuyersArm x = Check.with("A2000A4000");
        x.come(0, 9);
        x.come(1, 1);
        check.due("both buy", x.earned(60, 3, 0), 100600);
        check.due("one buys", x.earned(61, 3, 0), 100061);
        check.due("none buys", x.earned(121, 3, 0), 100000);
        check.due("less than nothing", x.earned(120, 3, 9), 100000 + 120 - 360);
        check.due("both, with k", x.earned(10, 3, 2), 100000 + 9 * (10 - 40) + (10 - 80));
        x.plaster(0, 40);
        check.due("arm of now", x.earned(61, 3, 0), 100610);
        check.due("greatest", x.earned(999, 99, 9), 100000 + 10 * (999 - 360));
        check.due("least", x.earned(1, 1, 0), 100010);
        int[][] bad = {{0, 1, 0}, {1000, 1, 0}, {1, 0, 0}, {1, 100, 0}, {1, 1, -1}, {1, 1, 10}, {-1, 1, 0}, {1, -1, 0}};
        for (int[] b : bad) {
            check.due("bad", x.earned(b[0], b[1], b[2]), BuyersArm.BAD);
        }
    }

    private static void ask() {
        BuyersArm x = Check.with("A2000A4000A9900");
        check.due("nobody comes", x.ask(99, 9), 1);
        x.come(0, 9);
        x.come(1, 1);
        check.due("by the many", x.ask(3, 0), 60);
        x.come(0, 1);
        // 60 from two is as much as 120 from one.
        check.due("of like ones the least", x.ask(3, 0), 60);
        x.come(0, 0);
        check.due("by the one", x.ask(3, 0), 120);
        // Each sale loses: ask what nobody pays, the least such.
        check.due("nobody shall pay", x.ask(1, 2), 41);
        x.come(2, 9);
        check.due("999 at most", x.ask(99, 0), 999);
        check.due("999 at most, at a loss", x.ask(1, 9), 100);
        int[][] bad = {{0, 0}, {100, 0}, {1, -1}, {1, 10}};
        for (int[] b : bad) {
            check.due("bad", x.ask(b[0], b[1]), BuyersArm.BAD);
        }
        x.plaster(2, 10);
        check.due("arm of now", x.ask(3, 0), 30);
        BuyersArm short6 = Check.with("A0100A0100A0100A0100A0100A0100");
        short6.come(5, 1);
        check.due("of the sixth", short6.ask(2, 0), 2);
        check.due("earned of the sixth", short6.earned(2, 2, 0), 100002);
    }

    private static void keeper() {
        BuyersArm x = Check.with("A2000A4000");
        check.due("not, as it was", x.keeper(1, false), 0);
        check.due("keeper", x.keeper(1, true), 1);
        check.due("keeper still", x.keeper(1, true), 0);
        check.due("told", x.person(1, 5), 1);
        check.due("other", x.person(0, 5), 0);
        check.due("no more", x.keeper(1, false), 1);
        check.due("told", x.person(1, 5), 0);
        check.due("person 2", x.keeper(2, true), BuyersArm.UNKNOWN);
        check.due("person -1", x.keeper(-1, false), BuyersArm.UNKNOWN);
        check.due("person 32", x.keeper(32, true), BuyersArm.UNKNOWN);
    }

    private static void losersAndFairest() {
        BuyersArm x = Check.with("A2000A4000A6000");
        int[][] due = {{1, 3}, {19, 3}, {20, 2}, {39, 2}, {40, 1}, {59, 1}, {60, 0}, {99, 0}};
        for (int[] d : due) {
            check.due("losers " + d[0], x.losers(d[0]), d[1]);
        }
        check.due("fairest", x.fairest(), 60);
        x.keeper(1, true);
        int[][] mixed = {{1, 2}, {20, 1}, {40, 1}, {41, 2}, {60, 1}, {99, 1}};
        for (int[] d : mixed) {
            check.due("losers " + d[0], x.losers(d[0]), d[1]);
        }
        check.due("of like ones the least", x.fairest(), 20);
        x.keeper(2, true);
        check.due("between", x.fairest(), 20);
        x.keeper(0, true);
        check.due("all sell", x.fairest(), 1);
        x.plaster(0, 99);
        x.keeper(0, false);
        x.keeper(1, false);
        x.keeper(2, false);
        check.due("the longest", x.fairest(), 99);
        check.due("e 0", x.losers(0), BuyersArm.BAD);
        check.due("e 100", x.losers(100), BuyersArm.BAD);
        check.due("e -1", x.losers(-1), BuyersArm.BAD);
        check.due("nobody", new BuyersArm().fairest(), 1);
        BuyersArm six = Check.with("A0200A0200A0200A0200A0200A0200");
        check.due("all six lose", six.losers(1), 6);
        check.due("fairest of six", six.fairest(), 2);
        Check.tell(six, "A0200");
        six.market();
        check.due("those before are gone", six.losers(1), 1);
        six.market();
        check.due("and still are", six.losers(1), 1);
    }

    private static void cut(BuyersArm x, int l, int people, int left, int ells) {
        check.due("cut left " + l + " " + people, x.cut(l, people, false), left);
        check.due("cut ells " + l + " " + people, x.cut(l, people, true), ells);
    }

    private static void cut() {
        BuyersArm x = Check.with("A0700A1100A1000");
        cut(x, 6, 7, 6, 0);
        cut(x, 7, 7, 0, 1);
        cut(x, 8, 7, 1, 1);
        cut(x, 14, 1, 0, 2);
        cut(x, 20, 5, 0, 2);
        // 21 by three of 7, or 11 and 10.
        cut(x, 21, 7, 0, 2);
        cut(x, 21, 1, 0, 3);
        cut(x, 21, 2, 10, 1);
        cut(x, 19, 7, 1, 2);
        cut(x, 999, 1, 5, 142);
        cut(x, 999, 0, 999, 0);
        cut(x, 5, 0, 5, 0);
        cut(x, 1, 7, 1, 0);
        x.plaster(0, 1);
        cut(x, 999, 1, 0, 999);
        cut(x, 999, 7, 0, 91);
        int[][] bad = {{0, 1}, {1000, 1}, {-1, 1}, {1, 8}, {1, -1}, {1, Integer.MIN_VALUE}, {1, Integer.MAX_VALUE}};
        for (int[] b : bad) {
            cut(x, b[0], b[1], BuyersArm.BAD, BuyersArm.BAD);
        }
        BuyersArm nobody = new BuyersArm();
        cut(nobody, 5, 0, 5, 0);
        cut(nobody, 5, 1, BuyersArm.BAD, BuyersArm.BAD);
        BuyersArm six = Check.with("A0200A0200A0200A0200A0200A0300");
        cut(six, 3, 63, 0, 1);
        cut(six, 3, 32, 0, 1);
        cut(six, 3, 64, BuyersArm.BAD, BuyersArm.BAD);
    }

    private static void when() {
        BuyersArm x = Check.with("A0500A9900C100000C010000N00");
        check.due("grows alone", x.when(0, 0, 1, 0), 30);
        check.due("dearer alone", x.when(0, 0, 0, 1), 0);
        check.due("neither", x.when(0, 0, 0, 0), 0);
        // 5 + 9 t by 10 + 9 t, up to 99: year 10 has 95 / 100, year 11 has 99 / 109.
        check.due("both", x.when(0, 0, 9, 9), 10);
        check.due("99 at most", x.when(0, 0, 9, 0), 11);
        check.due("99 already", x.when(1, 0, 9, 0), 0);
        check.due("cheap now", x.when(0, 1, 9, 9), 0);
        x.plaster(0, 10);
        check.due("alike in all years", x.when(0, 0, 1, 1), 0);
        check.due("in a year", Check.with("A9800C990000").when(0, 0, 1, 1), 1);
        // Year 30 is the last.
        x.plaster(0, 1);
        check.due("slowly", x.when(0, 0, 1, 1), 30);
        check.due("person 2", x.when(2, 0, 0, 0), BuyersArm.UNKNOWN);
        check.due("counter 2", x.when(0, 2, 0, 0), BuyersArm.UNKNOWN);
        check.due("person -1", x.when(-1, 0, 0, 0), BuyersArm.UNKNOWN);
        check.due("counter -1", x.when(0, -1, 0, 0), BuyersArm.UNKNOWN);
        check.due("UNKNOWN is ahead of BAD", x.when(0, 2, 10, 0), BuyersArm.UNKNOWN);
        int[][] bad = {{10, 0}, {-1, 0}, {0, 10}, {0, -1}};
        for (int[] b : bad) {
            check.due("bad", x.when(0, 0, b[0], b[1]), BuyersArm.BAD);
        }
    }
}
