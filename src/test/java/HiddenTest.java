/** Promises 29 to 32. */
public final class HiddenTest {
    private static final Check check = new Check();

    public static void main(String[] args) {
        held();
        unheld();
        rowsOfEachPair();
        severalHeld();
        pinned();
        arm();
        check.end();
    }

    private static void held() {
        BuyersArm x = new BuyersArm();
        int[][] unknown = {{3, 0}, {0, 3}, {-1, 0}, {0, -1}, {3, 3}};
        for (int[] u : unknown) {
            check.due("unknown", x.held(u[0], 1, u[1], 1, 0), BuyersArm.UNKNOWN);
            check.due("UNKNOWN is ahead of BAD", x.held(u[0], 0, u[1], 0, 2), BuyersArm.UNKNOWN);
        }
        int[][] bad = {{0, 1, 0, 1, 0}, {2, 1, 2, 1, 0}, {0, 0, 1, 1, 0}, {0, 10, 1, 1, 0}, {0, 1, 1, 0, 0},
            {0, 1, 1, 10, 0}, {0, 1, 1, 1, 2}, {0, 1, 1, 1, -2}};
        for (int[] b : bad) {
            check.due("bad", x.held(b[0], b[1], b[2], b[3], b[4]), BuyersArm.BAD);
        }
        check.due("nothing yet", x.count(4), 0);
        for (int i = 1; i <= 8; i++) {
            check.due("held", x.held(0, 1, 1, 1, 0), i);
        }
        check.due("the 9th", x.held(0, 1, 1, 1, 1), BuyersArm.FULL);
        check.due("BAD is ahead of FULL", x.held(0, 1, 1, 1, 2), BuyersArm.BAD);
        check.due("what is refused changes nothing", x.mayBe(), 400);
        check.due("eight", x.count(4), 8);
    }

    private static void unheld() {
        BuyersArm x = new BuyersArm();
        check.due("unheld of none", x.unheld(), 0);
        x.held(0, 1, 1, 1, 0);
        x.held(1, 1, 2, 1, 0);
        check.due("rows", x.mayBe(), 20);
        check.due("unheld", x.unheld(), 2);
        check.due("none", x.count(4), 0);
        check.due("all rows", x.mayBe(), 8000);
        check.due("least", x.arm(2, false), 1);
        check.due("greatest", x.arm(2, true), 20);
    }

    private static void rowsOfEachPair() {
        for (int one = 0; one < 3; one++) {
            for (int other = 0; other < 3; other++) {
                for (int sign = -1; sign <= 1 && one != other; sign++) {
                    BuyersArm x = new BuyersArm();
                    x.held(one, 2, other, 3, sign);
                    // 2 a = 3 b in six pairs, 2 a < 3 b in 264 of 400.
                    int pairs = 0;
                    for (int a = 1; a <= 20; a++) {
                        for (int b = 1; b <= 20; b++) {
                            pairs += Integer.signum(2 * a - 3 * b) == sign ? 1 : 0;
                        }
                    }
                    check.due("rows " + one + " " + other + " " + sign, x.mayBe(), 20 * pairs);
                    if (sign == 0) {
                        check.due("least of one", x.arm(one, false), 3);
                        check.due("greatest of one", x.arm(one, true), 18);
                        check.due("least of the other", x.arm(other, false), 2);
                        check.due("greatest of the other", x.arm(other, true), 12);
                        check.due("least of the third", x.arm(3 - one - other, false), 1);
                        check.due("greatest of the third", x.arm(3 - one - other, true), 20);
                    }
                }
            }
        }
    }

    private static void severalHeld() {
        BuyersArm x = new BuyersArm();
        x.held(0, 1, 1, 1, 1);
        x.held(1, 2, 2, 3, -1);
        check.due("rows", x.mayBe(), 2981);
        x.held(2, 9, 0, 1, -1);
        check.due("rows", x.mayBe(), 15);
        x.held(0, 1, 2, 9, -1);
        check.due("no rows", x.mayBe(), 0);
        for (int one = 0; one < 3; one++) {
            check.due("no least", x.arm(one, false), BuyersArm.NONE);
            check.due("no greatest", x.arm(one, true), BuyersArm.NONE);
        }
        // A chain: no two of the three say alone what all say.
        x.unheld();
        x.held(0, 1, 1, 2, 0);
        x.held(1, 1, 2, 2, 0);
        check.due("rows of a chain", x.mayBe(), 5);
        check.due("least 0", x.arm(0, false), 4);
        check.due("greatest 0", x.arm(0, true), 20);
        check.due("least 1", x.arm(1, false), 2);
        check.due("greatest 1", x.arm(1, true), 10);
        check.due("least 2", x.arm(2, false), 1);
        check.due("greatest 2", x.arm(2, true), 5);
    }

    private static void pinned() {
        BuyersArm x = new BuyersArm();
        x.held(1, 4, 0, 5, 0);
        x.held(1, 3, 2, 4, 0);
        pinned(x, 16, 20, 15);
        x.unheld();
        x.held(1, 1, 0, 9, 1);
        x.held(2, 1, 0, 1, -1);
        check.due("rows", x.mayBe(), 2);
        check.due("least 2", x.arm(2, false), 1);
        check.due("greatest 2", x.arm(2, true), 1);
        check.due("least 1", x.arm(1, false), 19);
    }

    private static void pinned(BuyersArm x, int... arms) {
        check.due("one row", x.mayBe(), 1);
        for (int one = 0; one < 3; one++) {
            check.due("least " + one, x.arm(one, false), arms[one]);
            check.due("greatest " + one, x.arm(one, true), arms[one]);
        }
    }

    private static void arm() {
        BuyersArm x = new BuyersArm();
        check.due("arm 3", x.arm(3, true), BuyersArm.UNKNOWN);
        check.due("arm -1", x.arm(-1, false), BuyersArm.UNKNOWN);
        for (int one = 0; one < 3; one++) {
            check.due("least at first", x.arm(one, false), 1);
            check.due("greatest at first", x.arm(one, true), 20);
        }
        x.held(0, 9, 1, 1, -1);
        check.due("greatest 0", x.arm(0, true), 2);
        check.due("least 1", x.arm(1, false), 10);
        x.held(2, 1, 1, 1, 1);
        check.due("least 2", x.arm(2, false), 11);
        check.due("greatest 1", x.arm(1, true), 19);
    }
}
