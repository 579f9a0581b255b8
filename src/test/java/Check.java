/** What the tests share: answers held against what is due, and texts put into a class's bytes. */
final class Check {
    private int wrong;
    private int asked;
    private String sentence = "";

    /** The words of the document that the answers behind this call are held against. */
    void sentence(String words) {
        sentence = words;
    }

    void due(String call, long got, long want) {
        asked++;
        if (got != want) {
            wrong++;
            System.out.println((sentence.isEmpty() ? "" : "[" + sentence + "] ") + call + " answered " + got + ", due is " + want);
        }
    }

    void holds(String what, boolean so) {
        due(what, so ? 1 : 0, 1);
    }

    void end() {
        System.out.println(asked + " answers, " + wrong + " wrong");
        if (wrong != 0 || asked == 0) {
            System.exit(1);
        }
    }

    /** The text is wiped, and holds these signs (one byte each). */
    static void tell(BuyersArm x, String signs) {
        x.wipe();
        for (int from = 0; from < signs.length(); from += 8) {
            int to = Math.min(signs.length(), from + 8);
            x.write(to - from, packed(signs.substring(from, to)));
        }
    }

    static long packed(String signs) {
        long v = 0;
        for (int i = 0; i < signs.length(); i++) {
            v = v << 8 | signs.charAt(i) & 255;
        }
        return v;
    }

    static BuyersArm with(String signs) {
        BuyersArm x = new BuyersArm();
        tell(x, signs);
        if (x.market() < 0) {
            throw new IllegalStateException("no market: " + signs);
        }
        return x;
    }
}
