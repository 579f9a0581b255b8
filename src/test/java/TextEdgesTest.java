/** The edges of section 1 and of promises 2 to 5: THE TEXT, FAULT, and THE MARKET that is made of it. */
public final class TextEdgesTest {
    private static final String SIX = "A0100A0100A0100A0100A0100A0100";
    private static final String FOUR = "C010000C010000C010000C010000";
    // 72 bytes, as many as there may be: six people, three counters, seven bars.
    private static final String LONGEST = "A1101A2202A3303A4404A5505A6606C071111C082222C093333N00N01N02N50N51N52N31";
    private static final String DIGITS = "0123456789";

    private static final Check check = new Check();

    public static void main(String[] args) {
        howManyBytes();
        lowestBytesHighestFirst();
        anyByteIsTaken();
        noLongerThan72();
        badIsAheadOfFull();
        aFullTextIsAMarket();
        wiped();
        firstSigns();
        signsOfAPerson();
        signsOfACounter();
        signsOfABar();
        allThatMayBeTold();
        notAtItsEnd();
        lengthSetAside();
        theFirstOfTwoFaults();
        noneOrMoreParts();
        numberedAsTold();
        refusedMarket();
        theTextStays();
        anew();
        fewerThanBefore();
        check.end();
    }

    private static void howManyBytes() {
        check.sentence("n bytes (1 .. 8) of v .. BAD");
        int[] bad = {0, 9, -1, -8, 16, 64, 257, Integer.MIN_VALUE, Integer.MIN_VALUE + 1, Integer.MAX_VALUE};
        BuyersArm x = new BuyersArm();
        for (int n : bad) {
            check.due("write " + n + " to nothing", x.write(n, 'A'), BuyersArm.BAD);
            check.due("length", x.count(6), 0);
        }
        for (int n = 1; n <= 8; n++) {
            BuyersArm y = new BuyersArm();
            check.due("write " + n, y.write(n, 0), n);
            check.due("length", y.count(6), n);
        }
        Check.tell(x, "A9999");
        for (int n : bad) {
            check.due("write " + n + " behind a person", x.write(n, 'A'), BuyersArm.BAD);
        }
        check.due("length as it was", x.count(6), 5);
        check.due("fault as it was", x.fault(), BuyersArm.NONE);
    }

    private static void lowestBytesHighestFirst() {
        check.sentence("the lowest n, the highest of these first, come behind THE TEXT: how long it is");
        String text = "A1234C567890A9876C012345N10";
        for (int n = 1; n <= 8; n++) {
            BuyersArm x = new BuyersArm();
            for (int from = 0; from < text.length(); from += n) {
                int to = Math.min(text.length(), from + n);
                // What stands above the lowest n is no part of it.
                long above = to - from == 8 ? 0 : 0x4e4e_4e4e_4e4e_4e4eL << 8 * (to - from);
                check.due("write", x.write(to - from, above | Check.packed(text.substring(from, to))), to);
            }
            check.due("market by " + n, x.market(), 2);
            check.due("arm 0", x.person(0, 0), 12);
            check.due("fee 0", x.person(0, 1), 34);
            check.due("arm 1", x.person(1, 0), 98);
            check.due("fee 1", x.person(1, 1), 76);
            check.due("price 0", x.counter(0, 0), 56);
            check.due("stock 0", x.counter(0, 1), 7890);
            check.due("price 1", x.counter(1, 0), 1);
            check.due("stock 1", x.counter(1, 1), 2345);
            check.due("barred", x.barred(1, 0), 1);
        }
    }

    private static void anyByteIsTaken() {
        check.sentence("THE TEXT is bytes");
        long[] values = {0, -1, Long.MIN_VALUE, Long.MAX_VALUE, 0x8080_8080_8080_8080L};
        for (long v : values) {
            BuyersArm x = new BuyersArm();
            check.due("write 8 of " + v, x.write(8, v), 8);
            check.due("fault", x.fault(), 0);
            check.due("write 1 of " + v, x.write(1, v), 9);
        }
        // A byte is told by its eight bits: 0xc1 is no A, and 0x141 is one.
        BuyersArm x = new BuyersArm();
        x.write(1, 0xc1);
        check.due("fault of 0xc1", x.fault(), 0);
        x.wipe();
        x.write(1, 0x141);
        check.due("fault of 0x141", x.fault(), 1);
        x.wipe();
        x.write(1, -256 + 'A');
        check.due("fault of -256 and A", x.fault(), 1);
    }

    private static BuyersArm ofLength(int length) {
        BuyersArm x = new BuyersArm();
        for (int i = 0; i < length; i++) {
            x.write(1, LONGEST.charAt(i));
        }
        return x;
    }

    private static void noLongerThan72() {
        check.sentence("FULL: it would be longer than 72 (nothing comes)");
        for (int n = 1; n <= 8; n++) {
            check.due("write " + n + " to 72", ofLength(72 - n).write(n, 0), 72);
            BuyersArm x = ofLength(73 - n);
            int fault = x.fault();
            check.due("write " + n + " to 73", x.write(n, 0), BuyersArm.FULL);
            check.due("nothing came", x.count(6), 73 - n);
            check.due("fault as it was", x.fault(), fault);
            if (n > 1) {
                check.due("one less", x.write(n - 1, Check.packed(LONGEST.substring(73 - n))), 72);
            }
            check.due("the market, whole", x.market(), 6);
            check.due("write " + n + " behind 72", x.write(n, Check.packed("A0000000")), BuyersArm.FULL);
            check.due("length", x.count(6), 72);
            check.due("fault", x.fault(), BuyersArm.NONE);
        }
    }

    private static void badIsAheadOfFull() {
        check.sentence("BAD; FULL: Of several what is told first");
        BuyersArm x = ofLength(72);
        int[] bad = {0, -1, 9, Integer.MIN_VALUE, Integer.MAX_VALUE};
        for (int n : bad) {
            check.due("write " + n, x.write(n, 0), BuyersArm.BAD);
        }
        check.due("length", x.count(6), 72);
    }

    private static void aFullTextIsAMarket() {
        check.sentence("THE TEXT is bytes (72 at most)");
        BuyersArm x = ofLength(72);
        check.due("fault", x.fault(), BuyersArm.NONE);
        check.due("market", x.market(), 6);
        for (int i = 0; i < 6; i++) {
            check.due("arm " + i, x.person(i, 0), 11 * (i + 1));
            check.due("fee " + i, x.person(i, 1), i + 1);
        }
        for (int c = 0; c < 3; c++) {
            check.due("price " + c, x.counter(c, 0), 7 + c);
            check.due("stock " + c, x.counter(c, 1), 1111 * (c + 1));
        }
        int bars = 0;
        for (int pair = 0; pair < 18; pair++) {
            bars = bars * 2 + x.barred(pair / 3, pair % 3);
        }
        check.due("bars", bars, 0b111_000_000_010_000_111);
    }

    private static void wiped() {
        check.sentence("THE TEXT is empty: how long it was");
        BuyersArm x = new BuyersArm();
        check.due("of nothing", x.wipe(), 0);
        check.due("of nothing again", x.wipe(), 0);
        x = ofLength(72);
        x.market();
        check.due("of all", x.wipe(), 72);
        check.due("length", x.count(6), 0);
        check.due("no fault", x.fault(), BuyersArm.NONE);
        check.due("THE MARKET is as it was", x.person(5, 0), 66);
        check.due("people", x.count(0), 6);
        check.due("write anew", x.write(5, Check.packed("A0700")), 5);
        check.due("what was there is gone", x.fault(), BuyersArm.NONE);
        check.due("market", x.market(), 1);
        check.due("arm", x.person(0, 0), 7);
        check.due("of five", x.wipe(), 5);
        for (int i = 0; i < 9; i++) {
            check.due("write 8 anew", x.write(8, 0), 8 * i + 8);
        }
        check.due("of 72", x.wipe(), 72);
    }

    /** Behind this text just these signs can come, of all 256. */
    private static void follow(String text, String signs) {
        for (int sign = 0; sign < 256; sign++) {
            BuyersArm x = new BuyersArm();
            Check.tell(x, text);
            x.write(1, sign);
            int fault = x.fault();
            boolean taken = signs.indexOf(sign) >= 0;
            if (taken) {
                check.holds("sign " + sign + " is taken behind " + text + ", not " + fault,
                    fault == BuyersArm.NONE || fault == text.length() + 1);
            } else {
                check.due("fault of sign " + sign + " behind " + text, fault, text.length());
                check.due("market of sign " + sign + " behind " + text, x.market(), BuyersArm.LATE);
            }
        }
    }

    private static void firstSigns() {
        check.sentence("A MARKET is a TEXT of PARTS");
        follow("", "AC");
        follow("A0100", "AC");
        follow("C010000", "AC");
        follow("A0100C010000", "ACN");
        follow("C010000A0100", "ACN");
    }

    private static void signsOfAPerson() {
        check.sentence("a PERSON with an ARM of aa (01 .. 99) and a FEE of ff (00 .. 99)");
        follow("A", DIGITS);
        follow("A0", "123456789");
        follow("A1", DIGITS);
        follow("A9", DIGITS);
        follow("A01", DIGITS);
        follow("A99", DIGITS);
        follow("A010", DIGITS);
        follow("A019", DIGITS);
        String[] parts = {"A0100", "A0199", "A1000", "A9900", "A9999"};
        for (String part : parts) {
            BuyersArm x = new BuyersArm();
            Check.tell(x, part);
            check.due("fault of " + part, x.fault(), BuyersArm.NONE);
            check.due("market of " + part, x.market(), 1);
            check.due("arm", x.person(0, 0), Integer.parseInt(part.substring(1, 3)));
            check.due("fee", x.person(0, 1), Integer.parseInt(part.substring(3)));
        }
        check.sentence("a PERSON (6 at most)");
        follow(SIX.substring(5), "AC");
        follow(SIX, "C");
        follow(SIX + "C010000", "CN");
    }

    private static void signsOfACounter() {
        check.sentence("a COUNTER with a PRICE of pp (01 .. 99) an ELL, and a STOCK of ssss parts (0000 .. 9999)");
        follow("C", DIGITS);
        follow("C0", "123456789");
        follow("C1", DIGITS);
        follow("C9", DIGITS);
        follow("C01", DIGITS);
        follow("C010", DIGITS);
        follow("C0100", DIGITS);
        follow("C01000", DIGITS);
        follow("C99999", DIGITS);
        String[] parts = {"C010000", "C010001", "C100000", "C019999", "C999999"};
        for (String part : parts) {
            BuyersArm x = new BuyersArm();
            Check.tell(x, part);
            check.due("fault of " + part, x.fault(), BuyersArm.NONE);
            check.due("market of " + part, x.market(), 0);
            check.due("price", x.counter(0, 0), Integer.parseInt(part.substring(1, 3)));
            check.due("stock", x.counter(0, 1), Integer.parseInt(part.substring(3)));
        }
        check.sentence("a COUNTER (4 at most)");
        follow(FOUR.substring(7), "AC");
        follow(FOUR, "A");
        follow(FOUR + "A0100", "AN");
    }

    private static void signsOfABar() {
        check.sentence("PERSON i is BARRED at COUNTER c (both told ahead of it)");
        follow("A0100A0100", "AC");
        follow("A0100C010000N", "0");
        follow("A0100C010000N0", "0");
        follow("A0100A0100C010000N", "01");
        follow("A0100A0100C010000N1", "0");
        follow("A0100C010000C010000N", "0");
        follow("A0100C010000C010000N0", "01");
        follow(SIX + "C010000N", "012345");
        follow(SIX + "C010000N5", "0");
        follow("A0100" + FOUR + "N", "0");
        follow("A0100" + FOUR + "N0", "0123");
        check.sentence("no two twice");
        String two = "A0100A0100C010000C010000";
        follow(two + "N01N0", "0");
        follow(two + "N01N1", "01");
        follow(two + "N01N10N", "01");
        follow(two + "N01N00N", "1");
        follow(two + "N01N00N1", "01");
        follow(two + "N01N00N11N", "1");
        follow(two + "N01N00N11N1", "0");
        follow(two + "N01N00N11N10", "AC");
        follow(two + "N01N00N11N10A0100", "ACN");
        follow(two + "N01N00N11N10A0100N", "2");
        follow(two + "N01N00N11N10C010000", "ACN");
        follow(two + "N01N00N11N10C010000N", "01");
        follow(two + "N01N00N11N10C010000N1", "2");
    }

    private static void allThatMayBeTold() {
        check.sentence("a PERSON (6 at most) .. a COUNTER (4 at most)");
        follow(SIX + FOUR, "N");
        follow(SIX + FOUR + "N", "012345");
        follow(SIX + FOUR + "N5", "0123");
        follow(SIX + FOUR + "N53", "N");
        follow(SIX + FOUR + "N53N5", "012");
        follow(SIX + FOUR + "N50N51N52N5", "3");
        follow(SIX + FOUR + "N50N51N52N53", "N");
        follow(SIX + FOUR + "N50N51N52N53N", "01234");
        // All are barred that can be: six at one counter, one at four.
        follow(SIX + "C010000N00N10N20N30N40N50", "C");
        follow("A0100" + FOUR + "N03N02N01N00", "A");
    }

    private static void notAtItsEnd() {
        check.sentence("its length, if it is only not at its end; NONE: none");
        String text = "A1101A2202C071111N00C082222N11A3303";
        String ends = " 5 10 17 20 27 30 35 ";
        for (int length = 0; length <= text.length(); length++) {
            BuyersArm x = new BuyersArm();
            Check.tell(x, text.substring(0, length));
            boolean isMarket = length == 0 || ends.contains(" " + length + " ");
            check.due("fault of " + length, x.fault(), isMarket ? BuyersArm.NONE : length);
            int people = length < 5 ? 0 : length < 10 ? 1 : length < 35 ? 2 : 3;
            check.due("market of " + length, x.market(), isMarket ? people : BuyersArm.LATE);
        }
    }

    private static void lengthSetAside() {
        check.sentence("whatever came behind it (its length set aside)");
        // A market of 71, behind which a bar would need more bytes than there may be.
        String of71 = SIX + "C010000C010000N00N01N10N11N20N21N30N31N40";
        check.due("71 bytes", of71.length(), 71);
        String[] open = {of71 + "N", LONGEST.substring(0, 69) + "N4" + "N", LONGEST.substring(0, 69) + "N41"};
        int[] due = {72, 71, BuyersArm.NONE};
        for (int i = 0; i < open.length; i++) {
            BuyersArm x = new BuyersArm();
            Check.tell(x, open[i]);
            check.due("length", x.count(6), 72);
            check.due("fault of " + open[i], x.fault(), due[i]);
        }
        BuyersArm x = new BuyersArm();
        Check.tell(x, of71 + "A");
        check.due("a seventh person", x.fault(), 71);
        Check.tell(x, of71 + "C");
        check.due("a third counter", x.fault(), 72);
    }

    private static void theFirstOfTwoFaults() {
        check.sentence("the place (from 0) of the first byte by which THE TEXT can be no MARKET");
        String[] texts = {"xx", "Ax0x", "A00C00", "A0100N00C00", "A0100C010000N10N01", "A0100C010000N01x", "A0100xA00", "A0100C01000A0000"};
        int[] due = {0, 1, 2, 5, 13, 14, 5, 11};
        for (int i = 0; i < texts.length; i++) {
            BuyersArm x = new BuyersArm();
            Check.tell(x, texts[i]);
            check.due("fault of " + texts[i], x.fault(), due[i]);
            check.due("asked again", x.fault(), due[i]);
            check.due("market", x.market(), BuyersArm.LATE);
        }
    }

    private static void noneOrMoreParts() {
        check.sentence("a TEXT of PARTS, none or more");
        BuyersArm x = new BuyersArm();
        check.due("fault of nothing", x.fault(), BuyersArm.NONE);
        check.due("market of nothing", x.market(), 0);
        check.due("nobody", x.count(0), 0);
        check.due("nothing", x.count(1), 0);
        x = Check.with(SIX);
        check.due("six people", x.count(0), 6);
        check.due("no counters", x.count(1), 0);
        check.due("person 5", x.person(5, 0), 1);
        check.due("person 6", x.person(6, 0), BuyersArm.UNKNOWN);
        check.due("counter 0", x.counter(0, 0), BuyersArm.UNKNOWN);
        x = Check.with(FOUR);
        check.due("nobody", x.count(0), 0);
        check.due("four counters", x.count(1), 4);
        check.due("counter 3", x.counter(3, 0), 1);
        check.due("counter 4", x.counter(4, 0), BuyersArm.UNKNOWN);
        check.due("person 0", x.person(0, 0), BuyersArm.UNKNOWN);
    }

    private static void numberedAsTold() {
        check.sentence("PEOPLE and COUNTERS numbered as they are told");
        BuyersArm x = Check.with("C110011A2122C330033N00A4344C550055N12N01A6566");
        int[] arms = {21, 43, 65};
        for (int i = 0; i < 3; i++) {
            check.due("arm " + i, x.person(i, 0), arms[i]);
            check.due("fee " + i, x.person(i, 1), arms[i] + 1);
            check.due("price " + i, x.counter(i, 0), 11 + 22 * i);
            check.due("stock " + i, x.counter(i, 1), 11 + 22 * i);
        }
        int bars = 0;
        for (int pair = 0; pair < 9; pair++) {
            bars = bars * 2 + x.barred(pair / 3, pair % 3);
        }
        check.due("bars", bars, 0b110_001_000);
    }

    private static void refusedMarket() {
        check.sentence("LATE: a FAULT. What is refused changes nothing");
        String[] faults = {"A", "A00", "x", "A9900C02000", "A9900C020000N0", "A9900C020000N00N", "A9900C020000N01", SIX + "A", FOUR + "C"};
        for (String fault : faults) {
            BuyersArm x = Check.with("A1101A2202C071111C082222N10");
            x.come(1, 9);
            x.keeper(0, true);
            x.plaster(0, 12);
            x.buy(0, 1, 3);
            x.keep(1);
            Check.tell(x, fault);
            check.due("market of " + fault, x.market(), BuyersArm.LATE);
            check.due("people", x.count(0), 2);
            check.due("counters", x.count(1), 2);
            check.due("arm", x.person(0, 0), 12);
            check.due("arm 1", x.person(1, 0), 22);
            check.due("fee", x.person(1, 1), 2);
            check.due("price", x.counter(1, 0), 8);
            check.due("stock", x.counter(1, 1), 2222 - 36);
            check.due("barred", x.barred(1, 0), 1);
            check.due("not barred", x.barred(0, 0), 0);
            check.due("comers", x.person(1, 4), 9);
            check.due("keeper", x.person(0, 5), 1);
            check.due("sales", x.count(2), 1);
            check.due("the text", x.count(6), fault.length());
            x.undo();
            check.due("what was kept", x.again(1), 1);
            check.due("the sale", x.sale(0, 3), 36);
        }
    }

    private static void theTextStays() {
        check.sentence("THE TEXT is THE MARKET (THE TEXT itself stays ..): how many PEOPLE");
        BuyersArm x = Check.with("A1101C071111");
        check.due("length", x.count(6), 12);
        check.due("no fault", x.fault(), BuyersArm.NONE);
        check.due("more behind it", x.write(5, Check.packed("A2202")), 17);
        check.due("not made yet", x.count(0), 1);
        check.due("market", x.market(), 2);
        check.due("arm 1", x.person(1, 0), 22);
        check.due("market again", x.market(), 2);
        check.due("length", x.wipe(), 17);
    }

    private static void anew() {
        check.sentence("no SALES were made, what was kept is gone; EXCHANGES, what was HELD, THE COMMON ELL stay");
        BuyersArm x = Check.with("A1001A2002C079999");
        for (int i = 0; i < 12; i++) {
            x.buy(i % 2, 0, i + 1);
        }
        for (int i = 0; i < 8; i++) {
            x.exchange(i % 2, 1 - i % 2, i + 1, 9, 9);
            x.held(0, 1, 1, 1, 0);
        }
        x.keep(0);
        x.keep(1);
        x.common(99);
        x.come(0, 9);
        x.keeper(1, true);
        x.plaster(1, 99);
        long gain = x.ring(0, true);
        check.due("market", x.market(), 2);
        check.due("no sales", x.count(2), 0);
        check.due("no first sale", x.sale(0, 0), BuyersArm.NONE);
        check.due("none to undo", x.undo(), BuyersArm.LATE);
        check.due("got", x.person(0, 3), 0);
        check.due("sold", x.counter(0, 3), 0);
        check.due("lost", x.counter(0, 4), 1000000);
        check.due("stock as told", x.counter(0, 1), 9999);
        check.due("arm as told", x.person(1, 0), 20);
        check.due("slot 0", x.again(0), BuyersArm.LATE);
        check.due("slot 1", x.again(1), BuyersArm.LATE);
        check.due("exchanges", x.count(3), 8);
        check.due("the best of them", x.ring(0, true), gain);
        check.due("held", x.count(4), 8);
        check.due("rows", x.mayBe(), 400);
        check.due("the common ell", x.count(5), 99);
        check.due("no exchange more", x.exchange(0, 1, 1, 1, 1), BuyersArm.FULL);
        check.due("no more held", x.held(0, 1, 1, 1, 0), BuyersArm.FULL);
        check.sentence("COMERS .. 0 at first, and when THE MARKET is made anew. KEEPERS .. likewise");
        check.due("comers", x.person(0, 4), 0);
        check.due("keeper", x.person(1, 5), 0);
    }

    private static void fewerThanBefore() {
        check.sentence("THE TEXT is THE MARKET: nobody of the one before is left");
        BuyersArm x = Check.with(SIX + "C010000N00N10N20N30N40N50");
        x.come(5, 9);
        x.keeper(5, true);
        Check.tell(x, "A0700");
        check.due("market", x.market(), 1);
        check.due("person 1", x.person(1, 0), BuyersArm.UNKNOWN);
        check.due("person 5", x.person(5, 0), BuyersArm.UNKNOWN);
        check.due("counter 0", x.counter(0, 0), BuyersArm.UNKNOWN);
        check.due("barred", x.barred(0, 0), BuyersArm.UNKNOWN);
        check.due("losers", x.losers(1), 1);
        check.due("earned", x.earned(1, 99, 0), 100000);
        check.due("a set with person 1", x.cut(9, 2, true), BuyersArm.BAD);
        Check.tell(x, SIX + "C010000");
        check.due("market", x.market(), 6);
        for (int i = 0; i < 6; i++) {
            check.due("comers " + i, x.person(i, 4), 0);
            check.due("keeper " + i, x.person(i, 5), 0);
            check.due("barred " + i, x.barred(i, 0), 0);
        }
    }
}
