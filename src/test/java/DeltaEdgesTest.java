/** The edges of deltas, a test for each sentence that names one: promises 9, 16, 19 and 21. */
public final class DeltaEdgesTest {
    private static final Due due = new Due();
    private static final long LONGEST = 0xFFFFFFFFFFFFFFFL;

    public static void main(String[] args) {
        copyOf2Letters();
        noCopyOf1Letter();
        longestContents();
        contentLongerThanItsBase();
        copyEndsWhereTheBaseEnds();
        copyEndsWhereTheContentEnds();
        longestOfSeveral();
        fromTheLeft();
        againstItself();
        whetherTheyCanBeReadOrNot();
        leastAndGreatestCost();
        deltaThatCostsAsMuchAsTheWholeForm();
        longestDeltaForm();
        due.close("DeltaEdgesTest");
    }

    private static void cost(long content, long base, int want) {
        Packstack x = Samples.stored(content, base);
        String call = "deltaCost of " + Long.toHexString(content) + " against " + Long.toHexString(base);
        due.is(call, x.deltaCost(0, 1), want);
    }

    /** The base has the lesser name, so that it is ahead even if it is shorter. */
    private static Packstack against(long base, long content) {
        Packstack x = new Packstack();
        x.store(1, base);
        x.store(2, content);
        x.pack(1, 1, false);
        return x;
    }

    private static void copyOf2Letters() {
        due.promise("21: a sequence is copied if it has 2 letters or more");
        cost(0x12L, 0x12L, 3);
        cost(0x12L, 0x3123L, 3);
        // Two letters cost the same either way; the parts tell a copy from letters.
        Packstack x = against(0x123456L, 0x561234L);
        due.is("costOf(1)", x.costOf(1), 5);
        due.is("parts(1): copies of 2 and of 4", x.parts(1), 2);
        Packstack y = against(0x1234L, 0x561234L);
        due.is("costOf(1)", y.costOf(1), 5);
        due.is("parts(1): 2 letters and a copy", y.parts(1), 3);
    }

    private static void noCopyOf1Letter() {
        due.promise("21: otherwise the letter is added");
        cost(0x1L, 0x1L, 2);
        cost(0x1L, 0x2L, 2);
        cost(0xFL, LONGEST, 2);
        cost(0x1231L, 0x123L, 4);
        cost(0x1321L, 0x123L, 5);
        cost(0x9128L, 0x12L, 5);
    }

    private static void longestContents() {
        due.promise("21: contents of 15 letters");
        cost(LONGEST, LONGEST, 3);
        cost(0x123456789ABCDEFL, 0x123456789ABCDEFL, 3);
        cost(LONGEST, 0x111111111111111L, 16);
        cost(0x123456789ABCDEFL, 0xFEDCBA987654321L, 16);
        cost(0x123456789ABCDEFL, 0xEF123456789ABCDL, 5);
    }

    private static void contentLongerThanItsBase() {
        due.promise("21: a content longer than its base");
        cost(LONGEST, 0xFL, 16);
        cost(LONGEST, 0xFFL, 16);
        cost(LONGEST, 0xFFFL, 11);
        cost(LONGEST, 0xFFFFFFFFFFFFFL, 5);
        cost(LONGEST, 0xFFFFFFFFFFFFFFL, 4);
        cost(0xFFFL, LONGEST, 3);
    }

    private static void copyEndsWhereTheBaseEnds() {
        due.promise("21: a copy ends where the base ends");
        cost(0x1234L, 0x3412L, 5);
        cost(0x1234L, 0x123L, 4);
        cost(0x89123L, 0x123456789L, 5);
    }

    private static void copyEndsWhereTheContentEnds() {
        due.promise("21: a copy ends where the content ends");
        cost(0x123L, 0x12345L, 3);
        cost(0x345L, 0x12345L, 3);
        cost(0x5L, 0x12345L, 2);
    }

    private static void longestOfSeveral() {
        due.promise("21: the longest sequence that stands somewhere in the base is copied");
        cost(0x1234L, 0x129123412L, 3);
        cost(0x1234L, 0x123912341239L, 3);
        cost(0x1234L, 0x121231234L, 3);
        cost(0x1234L, 0x123412312L, 3);
        // Found in the midst of what has been matched before.
        cost(0x1123L, 0x11123L, 3);
    }

    private static void fromTheLeft() {
        due.promise("21: from the left, the longest at each place, even where that costs more");
        cost(0x12345L, 0x1292345L, 5);
        cost(0x1234L, 0x1239234L, 4);
        Packstack x = against(0x1292345L, 0x123456L);
        due.is("costOf(1): copies of 12 and 345, the letter 6", x.costOf(1), 6);
        due.is("base(1)", x.base(1), Packstack.NONE);
    }

    private static void againstItself() {
        due.promise("21: an object against itself");
        Packstack x = Samples.stored(0x1L, 0x12L, 0x123L, LONGEST);
        due.is("deltaCost(0, 0)", x.deltaCost(0, 0), 2);
        due.is("deltaCost(1, 1)", x.deltaCost(1, 1), 3);
        due.is("deltaCost(2, 2)", x.deltaCost(2, 2), 3);
        due.is("deltaCost(3, 3)", x.deltaCost(3, 3), 3);
    }

    private static void whetherTheyCanBeReadOrNot() {
        due.promise("21: whether they can be read or not");
        Packstack x = Samples.chain();
        x.prune();
        x.damage(0);
        due.is("deltaCost(1, 0), both unreadable", x.deltaCost(1, 0), 3);
        x.delete(1);
        x.pack(8, 6, false);
        due.is("forms()", x.forms(), 0);
        due.is("deltaCost(1, 0), one deleted, without forms", x.deltaCost(1, 0), 3);
        due.is("deltaCost(0, 1)", x.deltaCost(0, 1), 3);
        due.badPlace("deltaCost(0, 3)", () -> x.deltaCost(0, 3));
        due.badPlace("deltaCost(3, 0)", () -> x.deltaCost(3, 0));
        due.badPlace("deltaCost(-1, 0)", () -> x.deltaCost(-1, 0));
        due.badPlace("deltaCost(0, -1)", () -> x.deltaCost(0, -1));
        due.badPlace("deltaCost(-1, 3)", () -> x.deltaCost(-1, 3));
    }

    private static void leastAndGreatestCost() {
        due.promise("21: the least and the greatest cost of a delta");
        cost(0x1L, LONGEST, 2);
        cost(0x123456789ABCDEFL, 0x1L, 16);
        // Seven copies and a letter cost as much as fifteen letters.
        cost(0x121212121212121L, 0x12L, 16);
    }

    private static void deltaThatCostsAsMuchAsTheWholeForm() {
        due.promise("9: a delta is the form if it costs less than the whole form");
        Packstack three = against(0x123L, 0x123L);
        due.is("base(1): a delta of 3 for 3 letters", three.base(1), Packstack.NONE);
        due.is("costOf(1)", three.costOf(1), 3);
        due.is("parts(1)", three.parts(1), 1);
        Packstack four = against(0x1234L, 0x1234L);
        due.is("base(1): a delta of 3 for 4 letters", four.base(1), 0);
        due.is("costOf(1)", four.costOf(1), 3);
        Packstack one = against(0x1L, 0x1L);
        due.is("base(1): a delta of 2 for 1 letter", one.base(1), Packstack.NONE);
        due.is("costOf(1)", one.costOf(1), 1);
    }

    private static void longestDeltaForm() {
        due.promise("16 and 19: the dearest delta that is a form");
        Packstack fifteen = against(0x123L, 0x123456789ABCDEFL);
        due.is("base(1): a copy and 12 letters", fifteen.base(1), Packstack.NONE);
        due.is("costOf(1)", fifteen.costOf(1), 15);
        due.is("parts(1)", fifteen.parts(1), 1);
        Packstack fourteen = against(0x1234L, 0x123456789ABCDEFL);
        due.is("base(1): a copy and 11 letters", fourteen.base(1), 0);
        due.is("costOf(1)", fourteen.costOf(1), 14);
        due.is("parts(1)", fourteen.parts(1), 12);
    }
}
