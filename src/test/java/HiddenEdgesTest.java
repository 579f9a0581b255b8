/** The edges of section 6 and of promises 29 to 32: HIDDEN ARMS. */
public final class HiddenEdgesTest {
    private static final int NONE = BuyersArm.NONE;

    private static final Check check = new Check();

    public static void main(String[] args) {
        whichArms();
        anotherOne();
        ellsAndSigns();
        eightHeld();
        refusalsInOrder();
        refusedOnesAreNotHeld();
        nothingAtFirst();
        nothingAnyMore();
        allThatCanBeHeld();
        upToEightOfThem();
        noRow();
        oneRow();
        whichArmIsTold();
        apartFromTheMarket();
        check.end();
    }

    private static void whichArms() {
        check.sentence("HIDDEN ARMS are of three, 0 .. 2; UNKNOWN: arms");
        BuyersArm x = new BuyersArm();
        int[] far = {3, -1, 4, Integer.MIN_VALUE, Integer.MAX_VALUE};
        for (int one : far) {
            for (int other = 0; other < 3; other++) {
                check.due("one " + one, x.held(one, 1, other, 1, 0), BuyersArm.UNKNOWN);
                check.due("other " + one, x.held(other, 1, one, 1, 0), BuyersArm.UNKNOWN);
            }
            check.due("both " + one, x.held(one, 1, one, 1, 0), BuyersArm.UNKNOWN);
        }
        check.due("nothing", x.count(4), 0);
        check.due("rows", x.mayBe(), 8000);
        int times = 0;
        for (int pair = 0; pair < 9; pair++) {
            if (pair / 3 != pair % 3) {
                times++;
                check.due("held " + pair, x.held(pair / 3, 1, pair % 3, 1, 0), times);
            }
        }
        check.due("all as long", x.mayBe(), 20);
    }

    private static void anotherOne() {
        check.sentence("e ELLS of one against f ELLS of another one; BAD: both are one");
        BuyersArm x = new BuyersArm();
        for (int one = 0; one < 3; one++) {
            for (int sign = -1; sign <= 1; sign++) {
                check.due("both " + one, x.held(one, 1, one, 1, sign), BuyersArm.BAD);
            }
        }
        check.due("rows", x.mayBe(), 8000);
    }

    private static void ellsAndSigns() {
        check.sentence("(e, f 1 .. 9) .. sign (-1 .. 1); BAD: .. e, f, sign");
        int[] bad = {0, 10, -1, 11, Integer.MIN_VALUE, Integer.MAX_VALUE};
        int[] badSigns = {2, -2, 3, -3, Integer.MIN_VALUE, Integer.MAX_VALUE};
        BuyersArm x = new BuyersArm();
        for (int i = 0; i < bad.length; i++) {
            check.due("e " + bad[i], x.held(0, bad[i], 1, 1, 0), BuyersArm.BAD);
            check.due("f " + bad[i], x.held(0, 1, 1, bad[i], 0), BuyersArm.BAD);
            check.due("sign " + badSigns[i], x.held(0, 1, 1, 1, badSigns[i]), BuyersArm.BAD);
            check.due("e " + bad[i] + " of the higher", x.held(2, bad[i], 1, 1, 0), BuyersArm.BAD);
            check.due("f " + bad[i] + " of the lower", x.held(2, 1, 1, bad[i], 0), BuyersArm.BAD);
            check.due("sign " + badSigns[i], x.held(2, 1, 1, 1, badSigns[i]), BuyersArm.BAD);
        }
        check.due("nothing", x.count(4), 0);
        int[][] fine = {{1, 1, -1}, {9, 9, 1}, {1, 9, 0}, {9, 1, 0}};
        for (int i = 0; i < fine.length; i++) {
            check.due("fine", x.held(0, fine[i][0], 1, fine[i][1], fine[i][2]), i + 1);
        }
    }

    private static BuyersArm withEight() {
        BuyersArm x = new BuyersArm();
        for (int i = 1; i <= 8; i++) {
            check.due("held", x.held(0, 1, 1, 1, 0), i);
            check.due("so much", x.count(4), i);
        }
        return x;
    }

    private static void eightHeld() {
        check.sentence("8 at most: how many there are; FULL: 8");
        BuyersArm x = withEight();
        check.due("the 9th", x.held(1, 1, 2, 1, 0), BuyersArm.FULL);
        check.due("the 9th again", x.held(1, 1, 2, 1, 0), BuyersArm.FULL);
        check.due("eight", x.count(4), 8);
        check.due("rows", x.mayBe(), 400);
    }

    private static void refusalsInOrder() {
        check.sentence("UNKNOWN: arms; BAD: both are one, e, f, sign; FULL: 8. Of several what is told first");
        BuyersArm x = withEight();
        check.due("arms, FULL", x.held(3, 1, 0, 1, 0), BuyersArm.UNKNOWN);
        check.due("arms, e, FULL", x.held(3, 0, 0, 1, 0), BuyersArm.UNKNOWN);
        check.due("arms, f, FULL", x.held(0, 1, -1, 10, 0), BuyersArm.UNKNOWN);
        check.due("arms, sign, FULL", x.held(-1, 1, 0, 1, 2), BuyersArm.UNKNOWN);
        check.due("arms, both are one, FULL", x.held(3, 1, 3, 1, 0), BuyersArm.UNKNOWN);
        check.due("both are one, FULL", x.held(0, 1, 0, 1, 0), BuyersArm.BAD);
        check.due("e, FULL", x.held(0, 0, 1, 1, 0), BuyersArm.BAD);
        check.due("f, FULL", x.held(0, 1, 1, 10, 0), BuyersArm.BAD);
        check.due("sign, FULL", x.held(0, 1, 1, 1, -2), BuyersArm.BAD);
        check.due("rows", x.mayBe(), 400);
    }

    private static void refusedOnesAreNotHeld() {
        check.sentence("What is refused changes nothing");
        BuyersArm x = new BuyersArm();
        x.held(0, 2, 1, 3, 0);
        int[][] refused = {{3, 1, 0, 1, 0}, {0, 1, 3, 1, 0}, {1, 1, 1, 1, 1}, {1, 0, 2, 1, 1}, {1, 1, 2, 10, 1}, {1, 1, 2, 1, 2}};
        for (int[] r : refused) {
            check.holds("refused", x.held(r[0], r[1], r[2], r[3], r[4]) < 0);
            check.due("one", x.count(4), 1);
            check.due("rows", x.mayBe(), 120);
            check.due("least", x.arm(0, false), 3);
            check.due("greatest", x.arm(2, true), 20);
        }
        check.due("the second", x.held(1, 1, 2, 1, 0), 2);
        check.due("unheld", x.unheld(), 2);
    }

    private static void nothingAtFirst() {
        check.sentence("1 .. 20 parts each; none at first");
        BuyersArm x = new BuyersArm();
        check.due("rows", x.mayBe(), 8000);
        for (int one = 0; one < 3; one++) {
            check.due("least", x.arm(one, false), 1);
            check.due("greatest", x.arm(one, true), 20);
        }
        check.due("unheld", x.unheld(), 0);
        check.due("unheld again", x.unheld(), 0);
        check.due("rows", x.mayBe(), 8000);
    }

    private static void nothingAnyMore() {
        check.sentence("Nothing is HELD: how much was");
        BuyersArm x = withEight();
        check.due("unheld", x.unheld(), 8);
        check.due("nothing", x.count(4), 0);
        check.due("rows", x.mayBe(), 8000);
        check.due("unheld again", x.unheld(), 0);
        for (int i = 1; i <= 8; i++) {
            check.due("held anew", x.held(1, 9, 2, 9, 1), i);
        }
        check.due("the 9th", x.held(1, 1, 2, 1, 0), BuyersArm.FULL);
        check.due("rows", x.mayBe(), 190 * 20);
    }

    private static void allThatCanBeHeld() {
        check.sentence("e ELLS of one against f ELLS of another one: shorter (-1), as long (0), longer (1)");
        for (int n = 0; n < 6 * 81 * 3; n++) {
            int one = n % 3;
            int other = (one + 1 + n / 3 % 2) % 3;
            int[] h = {one, n / 6 % 9 + 1, other, n / 54 % 9 + 1, n / 486 - 1};
            BuyersArm x = new BuyersArm();
            x.held(h[0], h[1], h[2], h[3], h[4]);
            fits(x, new int[][] {h}, 1);
        }
    }

    /** What the first so many of these leave, by looking at all rows. */
    private static void fits(BuyersArm x, int[][] held, int many) {
        int rows = 0;
        int[] least = {NONE, NONE, NONE};
        int[] greatest = {NONE, NONE, NONE};
        for (int n = 0; n < 8000; n++) {
            int[] row = {n / 400 + 1, n / 20 % 20 + 1, n % 20 + 1};
            boolean fit = true;
            for (int i = 0; i < many; i++) {
                int[] h = held[i];
                fit &= Integer.signum(h[1] * row[h[0]] - h[3] * row[h[2]]) == h[4];
            }
            if (fit) {
                rows++;
                for (int one = 0; one < 3; one++) {
                    least[one] = least[one] == NONE ? row[one] : Math.min(least[one], row[one]);
                    greatest[one] = Math.max(greatest[one], row[one]);
                }
            }
        }
        String label = many + " held, the last " + java.util.Arrays.toString(held[many - 1]);
        check.due("rows, " + label, x.mayBe(), rows);
        for (int one = 0; one < 3; one++) {
            check.due("least of " + one + ", " + label, x.arm(one, false), least[one]);
            check.due("greatest of " + one + ", " + label, x.arm(one, true), greatest[one]);
        }
    }

    private static void upToEightOfThem() {
        check.sentence("how many rows of three ARMS fit all that");
        // By arms of 13, 17 and 7 parts; each takes some rows away.
        int[][] held = {{2, 1, 0, 5, -1}, {2, 2, 0, 9, -1}, {0, 8, 1, 1, 1}, {0, 4, 2, 1, 1}, {1, 1, 0, 7, -1}, {1, 1, 0, 6, -1},
            {1, 1, 0, 4, -1}, {0, 7, 2, 2, 1}};
        BuyersArm x = new BuyersArm();
        int before = 8000;
        for (int many = 1; many <= 8; many++) {
            int[] h = held[many - 1];
            check.due("held", x.held(h[0], h[1], h[2], h[3], h[4]), many);
            fits(x, held, many);
            check.holds("row 13 17 7 is one of them", x.mayBe() > 0 && x.arm(0, false) <= 13 && x.arm(0, true) >= 13);
            check.holds("there are less than " + before, x.mayBe() < before);
            before = x.mayBe();
        }
    }

    private static void noRow() {
        check.sentence("NONE: there is no row");
        BuyersArm x = new BuyersArm();
        x.held(0, 1, 1, 1, -1);
        x.held(1, 1, 2, 1, -1);
        check.due("rows yet", x.mayBe(), 1140);
        x.held(2, 1, 0, 1, -1);
        check.due("a circle", x.mayBe(), 0);
        for (int one = 0; one < 3; one++) {
            check.due("least", x.arm(one, false), NONE);
            check.due("greatest", x.arm(one, true), NONE);
        }
        check.due("held still", x.held(0, 1, 1, 1, -1), 4);
        check.due("no row still", x.mayBe(), 0);
        // One pair that can't be is enough: the third fits no row either.
        x.unheld();
        x.held(0, 1, 1, 1, 0);
        x.held(0, 1, 1, 1, 1);
        check.due("no row", x.mayBe(), 0);
        check.due("of the third", x.arm(2, true), NONE);
        check.due("of the third", x.arm(2, false), NONE);
        x.unheld();
        check.due("all rows", x.mayBe(), 8000);
        check.due("of the third", x.arm(2, true), 20);
    }

    private static void oneRow() {
        check.sentence("the least, the greatest of one in these: of few rows, and of one");
        // 1 10 1 .. 1 20 1, 2 19 2, 2 20 2
        BuyersArm x = new BuyersArm();
        x.held(0, 9, 1, 1, -1);
        x.held(0, 1, 2, 1, 0);
        check.due("thirteen rows", x.mayBe(), 13);
        ends(x, 1, 2, 10, 20, 1, 2);
        // 19 2 1, 20 2 1
        x.unheld();
        x.held(0, 1, 1, 9, 1);
        x.held(1, 1, 2, 1, 1);
        check.due("two rows", x.mayBe(), 2);
        ends(x, 19, 20, 2, 2, 1, 1);
        x.unheld();
        x.held(0, 5, 1, 4, 0);
        x.held(1, 3, 2, 4, 0);
        check.due("one row", x.mayBe(), 1);
        ends(x, 16, 16, 20, 20, 15, 15);
    }

    private static void ends(BuyersArm x, int... due) {
        for (int one = 0; one < 3; one++) {
            check.due("least of " + one, x.arm(one, false), due[2 * one]);
            check.due("greatest of " + one, x.arm(one, true), due[2 * one + 1]);
        }
    }

    private static void whichArmIsTold() {
        check.sentence("The least (greatest = false), the greatest ARM of one; UNKNOWN");
        BuyersArm x = new BuyersArm();
        int[] far = {3, -1, 4, Integer.MIN_VALUE, Integer.MAX_VALUE};
        for (int turn = 0; turn < 2; turn++) {
            for (int one : far) {
                check.due("least of " + one, x.arm(one, false), BuyersArm.UNKNOWN);
                check.due("greatest of " + one, x.arm(one, true), BuyersArm.UNKNOWN);
            }
            // UNKNOWN also where there is no row.
            x.held(0, 1, 1, 1, 0);
            x.held(0, 1, 1, 1, 1);
        }
        check.due("no row", x.mayBe(), 0);
    }

    private static void apartFromTheMarket() {
        check.sentence("HIDDEN ARMS are of three, whoever is in THE MARKET");
        BuyersArm x = new BuyersArm();
        check.due("nobody is there", x.held(2, 1, 0, 2, 0), 1);
        check.due("rows", x.mayBe(), 200);
        Check.tell(x, "A9900A0100");
        x.market();
        x.plaster(0, 50);
        x.keep(0);
        x.again(0);
        check.due("rows", x.mayBe(), 200);
        check.due("held", x.count(4), 1);
        check.due("greatest", x.arm(2, true), 20);
        check.due("greatest", x.arm(0, true), 10);
    }
}
