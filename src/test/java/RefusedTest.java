import java.util.ArrayList;
import java.util.List;
import java.util.Set;

/**
 * "Of several what is told first. What is refused changes nothing.": every call with every mixture of what is
 * just allowed and just not, in several situations. Behind each of them all that can be seen is looked at: behind
 * a refusal, and behind a call that only tells something, it is as it was; behind another one it is as with PlainArm.
 */
public final class RefusedTest {
    private static final int CALLS_OF_AN_OBJECT = 512;
    private static final Set<String> ONLY_TELL = Set.of("fault", "person", "counter", "barred", "sale", "truly", "cheapest",
        "cheapestBy", "ring", "ringAt", "earned", "ask", "losers", "fairest", "cut", "when", "mayBe", "arm", "count");
    private static final Object[] PEOPLE = {-1, 0, 1, 5, 6};
    private static final Object[] COUNTERS = {-1, 0, 1, 3, 4};
    private static final Object[] PARTS = {0, 1, 999, 1000};
    private static final Object[] UP_TO_99 = {0, 1, 99, 100};
    private static final Object[] ONE_TO_9 = {0, 1, 9, 10};
    private static final Object[] UP_TO_9 = {-1, 0, 9, 10};
    private static final Object[] OF_THREE = {-1, 0, 2, 3};
    private static final Object[] SIGNS = {-2, -1, 1, 2};
    private static final Object[] SLOTS = {-1, 0, 1, 2};
    private static final Object[] SIDES = {false, true};

    private static final Check check = new Check();

    public static void main(String[] args) {
        allIsThere();
        List<Call> edges = edges();
        situation("nobody", List.of(), edges);
        situation("people alone", told("A0100A9999"), edges);
        situation("counters alone", told("C010000C999999"), edges);
        situation("some", some(), edges);
        situation("all that may be", all(), edges);
        check.end();
    }

    /** Else FULL would be nowhere to be seen. */
    private static void allIsThere() {
        BuyersArm x = new BuyersArm();
        answers(x, all(), List.of());
        int[] most = {6, 4, 12, 8, 8, 98, 71};
        for (int what = 0; what < most.length; what++) {
            check.due("of all that may be, count " + what, x.count(what), most[what]);
        }
        check.due("what was kept first", x.again(0), 0);
        check.due("what was kept last", x.again(1), 12);
    }

    private static void situation(String name, List<Call> before, List<Call> edges) {
        long[] base = answers(new BuyersArm(), before, looks());
        same(name + ", at first", base, answers(new PlainArm(), before, looks()));
        int refused = 0;
        for (Call call : edges) {
            check.sentence(name + ", behind " + call);
            PlainArm plain = new PlainArm();
            answers(plain, before, List.of());
            long due = call.on(plain);
            BuyersArm x = new BuyersArm();
            answers(x, before, List.of());
            check.due(call.toString(), call.on(x), due);
            boolean isRefused = due <= BuyersArm.UNKNOWN && due >= BuyersArm.FULL;
            refused += isRefused ? 1 : 0;
            boolean asItWas = isRefused || ONLY_TELL.contains(call.name);
            same("what is seen", answers(x, List.of(), looks()), asItWas ? base : answers(plain, List.of(), looks()));
        }
        check.sentence("");
        check.holds("some calls are refused: " + name, refused > edges.size() / 2 && refused < edges.size());
    }

    private static void same(String what, long[] got, long[] due) {
        List<Call> looks = looks();
        for (int i = 0; i < due.length; i++) {
            check.due(what + ", " + i + ": " + looks.get(i), got[i], due[i]);
        }
    }

    private static long[] answers(BuyersArm x, List<Call> before, List<Call> calls) {
        for (Call call : before) {
            call.on(x);
        }
        return calls.stream().mapToLong(call -> call.on(x)).toArray();
    }

    private static long[] answers(PlainArm plain, List<Call> before, List<Call> calls) {
        for (Call call : before) {
            call.on(plain);
        }
        return calls.stream().mapToLong(call -> call.on(plain)).toArray();
    }

    /** Every mixture of what is told at each place. */
    private static void mix(List<Call> calls, String name, Object[]... places) {
        int many = 1;
        for (Object[] place : places) {
            many *= place.length;
        }
        for (int n = 0; n < many; n++) {
            Object[] told = new Object[places.length];
            int rest = n;
            for (int i = 0; i < places.length; i++) {
                told[i] = places[i][rest % places[i].length];
                rest /= places[i].length;
            }
            calls.add(new Call(name, told));
        }
    }

    private static List<Call> edges() {
        List<Call> calls = new ArrayList<>();
        marketEdges(calls);
        saleEdges(calls);
        ringEdges(calls);
        otherEdges(calls);
        farEdges(calls);
        return calls;
    }

    private static void marketEdges(List<Call> calls) {
        mix(calls, "write", new Object[] {0, 1, 2, 3, 8, 9}, new Object[] {65L, 0L, -1L, 0x4130313030L});
        mix(calls, "wipe");
        mix(calls, "fault");
        mix(calls, "market");
        mix(calls, "person", PEOPLE, new Object[] {-1, 0, 5, 6});
        mix(calls, "counter", COUNTERS, new Object[] {-1, 0, 4, 5});
        mix(calls, "barred", PEOPLE, COUNTERS);
        mix(calls, "plaster", PEOPLE, UP_TO_99);
        mix(calls, "common", UP_TO_99);
        mix(calls, "keep", SLOTS);
        mix(calls, "again", SLOTS);
        mix(calls, "count", new Object[] {-1, 0, 6, 7});
    }

    private static void saleEdges(List<Call> calls) {
        mix(calls, "buy", PEOPLE, COUNTERS, new Object[] {0, 1, 2, 99, 100});
        mix(calls, "undo");
        mix(calls, "sale", new Object[] {-1, 0, 1, 11, 12}, new Object[] {-1, 0, 3, 4});
        mix(calls, "truly", PEOPLE, COUNTERS, SIDES);
        mix(calls, "cheapest", COUNTERS, PARTS);
        mix(calls, "cheapestBy", COUNTERS, PARTS, PEOPLE);
    }

    private static void ringEdges(List<Call> calls) {
        mix(calls, "exchange", OF_THREE, OF_THREE, ONE_TO_9, ONE_TO_9, UP_TO_99);
        mix(calls, "unchange");
        mix(calls, "ring", PEOPLE, SIDES);
        mix(calls, "ringAt", PEOPLE, OF_THREE);
        mix(calls, "held", OF_THREE, ONE_TO_9, OF_THREE, ONE_TO_9, SIGNS);
        mix(calls, "unheld");
        mix(calls, "mayBe");
        mix(calls, "arm", OF_THREE, SIDES);
    }

    private static void otherEdges(List<Call> calls) {
        mix(calls, "come", PEOPLE, UP_TO_9);
        mix(calls, "earned", PARTS, UP_TO_99, UP_TO_9);
        mix(calls, "ask", UP_TO_99, UP_TO_9);
        mix(calls, "keeper", PEOPLE, SIDES);
        mix(calls, "losers", UP_TO_99);
        mix(calls, "fairest");
        mix(calls, "cut", PARTS, new Object[] {-1, 0, 1, 3, 4, 63, 64}, SIDES);
        mix(calls, "when", PEOPLE, COUNTERS, UP_TO_9, UP_TO_9);
    }

    /** What is fine in most situations, but for one int that is as far off as can be. */
    private static void farEdges(List<Call> calls) {
        Call[] fine = {new Call("write", 1, 65L), new Call("person", 0, 0), new Call("counter", 0, 0), new Call("barred", 0, 0),
            new Call("plaster", 0, 9), new Call("common", 9), new Call("buy", 0, 0, 1), new Call("sale", 0, 0),
            new Call("truly", 0, 0, true), new Call("cheapest", 0, 9), new Call("cheapestBy", 0, 9, 0),
            new Call("exchange", 0, 1, 1, 1, 1), new Call("ring", 0, true), new Call("ringAt", 0, 0), new Call("come", 0, 1),
            new Call("earned", 9, 9, 9), new Call("ask", 9, 9), new Call("keeper", 0, true), new Call("losers", 9),
            new Call("cut", 9, 1, true), new Call("when", 0, 0, 1, 1), new Call("held", 0, 1, 1, 1, 0), new Call("arm", 0, true),
            new Call("keep", 0), new Call("again", 0), new Call("count", 0)};
        int[] far = {Integer.MIN_VALUE, Integer.MIN_VALUE + 1, -256, 256, 1 << 16, Integer.MAX_VALUE - 1, Integer.MAX_VALUE};
        for (Call call : fine) {
            for (int place = 0; place < call.places(); place++) {
                for (int n : far) {
                    if (call.isIntAt(place)) {
                        calls.add(call.with(place, n));
                    }
                }
            }
        }
    }

    private static List<Call> told(String text) {
        List<Call> calls = new ArrayList<>();
        for (int from = 0; from < text.length(); from += 8) {
            int to = Math.min(text.length(), from + 8);
            calls.add(new Call("write", to - from, Check.packed(text.substring(from, to))));
        }
        calls.add(new Call("market"));
        return calls;
    }

    private static List<Call> some() {
        List<Call> calls = told("A3005C070400A1802N10C020999A4500N01");
        calls.add(new Call("exchange", 0, 1, 3, 2, 30));
        calls.add(new Call("buy", 0, 0, 2));
        calls.add(new Call("plaster", 1, 21));
        calls.add(new Call("keep", 1));
        calls.add(new Call("buy", 1, 1, 3));
        calls.add(new Call("exchange", 1, 0, 1, 4, 20));
        calls.add(new Call("common", 25));
        calls.add(new Call("come", 1, 5));
        calls.add(new Call("keeper", 1, true));
        calls.add(new Call("held", 0, 2, 1, 3, -1));
        calls.add(new Call("wipe"));
        // The text is another market than the one that stands.
        calls.add(new Call("write", 8, Check.packed("A0102C03")));
        calls.add(new Call("write", 4, Check.packed("0040")));
        return calls;
    }

    /** As many of each as there may be; 71 bytes of text, and no room for its last part. */
    private static List<Call> all() {
        List<Call> calls = told("A0100A0299A0301A0402A0503A9904C010005C029999C030003C990004N00N53N32N30");
        calls.add(new Call("keep", 0));
        for (int i = 0; i < 12; i++) {
            calls.add(new Call("buy", i % 6, 1, i + 1));
        }
        for (int i = 0; i < 8; i++) {
            calls.add(new Call("exchange", i % 3, (i + 1) % 3, i % 4 + 1, i + 1, 9 - i));
            calls.add(new Call("held", i % 3, i + 2, (i + 1) % 3, i + 1, i % 3 == 2 ? -1 : 1));
        }
        calls.add(new Call("keep", 1));
        for (int i = 0; i < 6; i++) {
            calls.add(new Call("come", i, 9 - i));
            calls.add(new Call("keeper", i, i % 2 == 0));
        }
        calls.add(new Call("plaster", 2, 98));
        calls.add(new Call("common", 98));
        calls.add(new Call("write", 1, 'N' + 0L));
        return calls;
    }

    private static final List<Call> LOOKS = lookedAt();

    private static List<Call> looks() {
        return LOOKS;
    }

    private static List<Call> lookedAt() {
        List<Call> calls = new ArrayList<>();
        lookAtTheMarket(calls);
        lookAtTheRest(calls);
        lookAhead(calls);
        int most = Math.max(all().size(), some().size()) + 1 + calls.size();
        if (most > CALLS_OF_AN_OBJECT) {
            throw new IllegalStateException("an object is used for " + most + " calls");
        }
        return calls;
    }

    private static Object[] upTo(int last) {
        Object[] row = new Object[last + 1];
        for (int i = 0; i <= last; i++) {
            row[i] = i;
        }
        return row;
    }

    private static void lookAtTheMarket(List<Call> calls) {
        mix(calls, "count", upTo(6));
        mix(calls, "fault");
        mix(calls, "person", upTo(5), upTo(5));
        mix(calls, "counter", upTo(3), upTo(4));
        mix(calls, "barred", upTo(5), upTo(3));
        mix(calls, "sale", upTo(11), upTo(3));
    }

    private static void lookAtTheRest(List<Call> calls) {
        mix(calls, "truly", upTo(1), upTo(3), SIDES);
        mix(calls, "cheapest", upTo(3), new Object[] {3, 120});
        mix(calls, "cheapestBy", new Object[] {1}, new Object[] {120}, upTo(5));
        mix(calls, "ring", new Object[] {0, 2}, SIDES);
        mix(calls, "ringAt", new Object[] {0, 2}, upTo(2));
        mix(calls, "earned", new Object[] {9, 99}, new Object[] {3}, new Object[] {0, 2});
        mix(calls, "ask", new Object[] {3}, new Object[] {1});
        mix(calls, "losers", new Object[] {1, 20, 99});
        mix(calls, "fairest");
        mix(calls, "cut", new Object[] {100}, new Object[] {1, 6}, SIDES);
        mix(calls, "when", upTo(1), upTo(1), new Object[] {2}, new Object[] {1});
        mix(calls, "mayBe");
        mix(calls, "arm", upTo(2), SIDES);
    }

    /** What later calls answer: the row of sales taken back, what was kept, what comes behind the text, a market anew. */
    private static void lookAhead(List<Call> calls) {
        for (int i = 0; i < 13; i++) {
            mix(calls, "undo");
            mix(calls, "counter", new Object[] {1}, new Object[] {1});
        }
        mix(calls, "buy", new Object[] {0, 2}, new Object[] {0, 1}, new Object[] {1});
        for (Object slot : upTo(1)) {
            mix(calls, "again", new Object[] {slot});
            mix(calls, "count", new Object[] {2, 5});
            mix(calls, "person", upTo(5), new Object[] {0, 3});
            mix(calls, "counter", upTo(3), new Object[] {1});
            mix(calls, "sale", new Object[] {0, 11}, new Object[] {0, 3});
        }
        mix(calls, "exchange", new Object[] {0}, new Object[] {1}, new Object[] {1}, new Object[] {9}, new Object[] {1});
        mix(calls, "held", new Object[] {0}, new Object[] {1}, new Object[] {1}, new Object[] {1}, new Object[] {0});
        mix(calls, "ring", new Object[] {0}, SIDES);
        mix(calls, "mayBe");
        mix(calls, "unchange");
        mix(calls, "unheld");
        mix(calls, "mayBe");
        mix(calls, "market");
        mix(calls, "count", upTo(6));
        mix(calls, "person", upTo(5), new Object[] {0, 1, 4, 5});
        mix(calls, "counter", upTo(3), new Object[] {0, 1});
        mix(calls, "barred", new Object[] {0, 5}, upTo(3));
        mix(calls, "write", new Object[] {1}, new Object[] {(long) '0'});
        mix(calls, "fault");
        mix(calls, "wipe");
        mix(calls, "market");
        mix(calls, "count", upTo(1));
    }
}
