/** The edges of making a pack, a test for each sentence that names one: promise 9, with 12 and 13. */
public final class PackEdgesTest {
    private static final Due due = new Due();
    private static final long FIVE = Samples.FIVE;

    public static void main(String[] args) {
        windowOutOfRange();
        boundOutOfRange();
        emptyPacks();
        packOfOne();
        packOf40();
        takesThePlaceOfTheOneBefore();
        onlyWhatCouldBeReadJustBefore();
        orderByNames();
        orderByLetters();
        orderByNumbers();
        firstInTheOrder();
        leastWindow();
        greatestWindow();
        fewerAheadThanTheWindow();
        tooDeepOnesTakeUpTheWindow();
        boundOf0();
        boundOf1();
        greatestBound();
        nearestOfTheCheapest();
        notReusedUnlessAsked();
        nothingToReuse();
        baseAtTheBound();
        baseAtTheBoundInTheNewPackOnly();
        baseLessDeepInTheNewPack();
        damagedDelta();
        soundDeltaOfADamagedBase();
        baseNotInTheNewPack();
        wholeFormIsNotReused();
        onlyThePackJustBefore();
        reusedThoughThereIsABetterOne();
        reusedBeyondTheWindow();
        all40Reused();
        noPackYet();
        due.close("PackEdgesTest");
    }

    private static void bases(Packstack x, int... wanted) {
        for (int object = 0; object < wanted.length; object++) {
            due.is("base(" + object + ")", x.base(object), wanted[object]);
        }
    }

    private static void windowOutOfRange() {
        due.promise("9: a window is 1 to 8");
        Packstack x = Samples.chain();
        for (int window : new int[] {0, 9, -1, -8, 16, Integer.MIN_VALUE, Integer.MAX_VALUE}) {
            due.badArgument("pack(" + window + ", 0, false)", () -> x.pack(window, 0, false));
            due.badArgument("pack(" + window + ", 7, true)", () -> x.pack(window, 7, true));
        }
        due.is("cost()", x.cost(), 11);
        due.is("pack(1, 6, false)", x.pack(1, 6, false), 11);
        due.is("pack(8, 6, false)", x.pack(8, 6, false), 11);
    }

    private static void boundOutOfRange() {
        due.promise("9: a bound is 0 to 6");
        Packstack x = Samples.chain();
        for (int bound : new int[] {-1, 7, -6, 8, Integer.MIN_VALUE, Integer.MAX_VALUE}) {
            due.badArgument("pack(1, " + bound + ", false)", () -> x.pack(1, bound, false));
            due.badArgument("pack(8, " + bound + ", true)", () -> x.pack(8, bound, true));
        }
        due.is("cost()", x.cost(), 11);
        due.is("pack(8, 0, false)", x.pack(8, 0, false), 15);
        due.is("pack(8, 6, false)", x.pack(8, 6, false), 11);
    }

    private static void emptyPacks() {
        due.promise("9: a pack of no objects");
        Packstack none = new Packstack();
        due.is("pack(1, 0, false)", none.pack(1, 0, false), 0);
        due.is("pack(8, 6, true)", none.pack(8, 6, true), 0);
        due.is("forms()", none.forms(), 0);

        Packstack deleted = Samples.stored(FIVE, FIVE);
        deleted.delete(0);
        deleted.delete(1);
        due.is("pack(8, 6, false), all deleted", deleted.pack(8, 6, false), 0);
        due.is("forms()", deleted.forms(), 0);

        Packstack lost = Samples.chain();
        lost.prune();
        lost.damage(0);
        due.is("pack(8, 6, true), all lost", lost.pack(8, 6, true), 0);
        due.is("forms()", lost.forms(), 0);
        due.is("store(5, five) after an empty pack", lost.store(5, FIVE), 3);
        due.is("pack(8, 6, true)", lost.pack(8, 6, true), 5);
    }

    private static void packOf40() {
        due.promise("9: a pack of all 40 objects");
        // Seven ever deeper ones, seven at the bound; then the window has none below the bound.
        int[] depths = {0, 1, 2, 3, 4, 5, 6, 6, 6, 6, 6, 6, 6, 6};
        int[] bases = {-1, 0, 1, 2, 3, 4, 5, 5, 5, 5, 5, 5, 5, 5};
        Packstack x = Samples.alike(40);
        due.is("pack(8, 6, false)", x.pack(8, 6, false), 3 * 5 + 37 * 3);
        for (int object = 0; object < 40; object++) {
            int first = object / 14 * 14;
            due.is("depth(" + object + ")", x.depth(object), depths[object % 14]);
            int base = object == first ? Packstack.NONE : first + bases[object % 14];
            due.is("base(" + object + ")", x.base(object), base);
        }
        due.is("compared()", x.compared(), 48 + 48 + 45);
        due.is("forms()", x.forms(), 40);
    }

    private static void packOfOne() {
        due.promise("9: a pack of one object");
        Packstack x = Samples.packed(8, 6, 0x123456789ABCDEFL);
        due.is("cost()", x.cost(), 15);
        due.is("base(0)", x.base(0), Packstack.NONE);
        due.is("compared()", x.compared(), 0);
        due.is("pack(8, 6, true)", x.pack(8, 6, true), 15);
        due.is("reused()", x.reused(), 0);
    }

    private static void takesThePlaceOfTheOneBefore() {
        due.promise("9: a pack takes the place of the one before");
        Packstack x = Samples.chain();
        x.delete(0);
        x.delete(1);
        x.delete(2);
        x.pack(8, 6, true);
        due.is("compared() of an empty pack", x.compared(), 0);
        due.is("forms()", x.forms(), 0);
        due.is("cost()", x.cost(), 0);
        due.is("fanOut(15)", x.fanOut(15), 0);
        due.badPlace("indexAt(0)", () -> x.indexAt(0));
        Packstack y = Samples.chain();
        y.pack(8, 6, true);
        due.is("reused()", y.reused(), 2);
        y.damage(1);
        y.pack(8, 0, true);
        due.is("reused() of the next pack", y.reused(), 0);
        due.is("damage(1), whose form is a new one", y.damage(1), 1);
    }

    private static void onlyWhatCouldBeReadJustBefore() {
        due.promise("9: all live objects that could be read just before");
        Packstack x = new Packstack();
        for (int name = 0; name < 8; name += 2) {
            x.store(name, 0x1L);
        }
        x.store(8, FIVE);
        x.store(9, FIVE);
        x.pack(1, 1, false);
        x.prune();
        x.store(7, 0x2L);
        x.damage(0);
        x.damage(4);
        x.delete(1);
        x.delete(6);
        due.is("store(7, 3)", x.store(7, 0x3L), 7);
        due.is("pack(8, 6, true)", x.pack(8, 6, true), 3);
        int[] packed = {2, 3, 7};
        for (int place = 0; place < 3; place++) {
            due.is("indexAt(" + place + ")", x.indexAt(place), packed[place]);
        }
        due.badState("costOf(0), damaged and not loose", () -> x.costOf(0));
        due.badState("costOf(1), deleted with a sound form", () -> x.costOf(1));
        due.badState("costOf(5), its base damaged", () -> x.costOf(5));
        due.badState("costOf(6), deleted without a form", () -> x.costOf(6));

        Packstack loose = Samples.packed(1, 1, FIVE, FIVE);
        loose.damage(0);
        loose.damage(1);
        due.is("pack(1, 1, true), all damaged but loose", loose.pack(1, 1, true), 8);
        due.is("prune()", loose.prune(), 2);
    }

    private static void orderByNames() {
        due.promise("9: ordered by rising names");
        Packstack x = new Packstack();
        x.store(99, 0x12345678L);
        x.store(98, 0x1234567L);
        x.store(0, 0x12345L);
        due.is("pack(1, 6, false)", x.pack(1, 6, false), 5 + 5 + 4);
        bases(x, 1, 2, Packstack.NONE);
    }

    private static void orderByLetters() {
        due.promise("9: those with the same name by falling numbers of letters");
        Packstack x = Samples.stored(0x1234L, 0x123456789ABCDEFL, 0x12345L, 0x1L);
        due.is("pack(1, 6, false)", x.pack(1, 6, false), 15 + 3 + 3 + 1);
        bases(x, 2, Packstack.NONE, 1, Packstack.NONE);
    }

    private static void orderByNumbers() {
        due.promise("9: those with the same number of letters by rising object numbers");
        // The greater content first: the letters themselves do not decide.
        Packstack x = Samples.stored(0xFFFFL, 0x1111L, 0xFFFFL, 0x1111L);
        due.is("pack(1, 6, false)", x.pack(1, 6, false), 16);
        due.is("pack(2, 6, false)", x.pack(2, 6, false), 14);
        bases(x, Packstack.NONE, Packstack.NONE, 0, 1);
    }

    private static void firstInTheOrder() {
        due.promise("9: without candidates the form is whole");
        Packstack x = Samples.packed(8, 6, FIVE, FIVE);
        due.is("base(0), the first", x.base(0), Packstack.NONE);
        due.is("compared()", x.compared(), 1);
        x.delete(0);
        x.pack(8, 6, false);
        due.is("base(1), the first now", x.base(1), Packstack.NONE);
        due.is("compared()", x.compared(), 0);
    }

    /** Five letters, then strangers of one letter, then the five letters again as the last object. */
    private static Packstack apart(int strangers) {
        Packstack x = new Packstack();
        x.store(0, FIVE);
        for (int i = 0; i < strangers; i++) {
            x.store(1, 0x6L);
        }
        x.store(2, FIVE);
        return x;
    }

    private static void leastWindow() {
        due.promise("9: a window of 1 has the object directly ahead");
        Packstack x = apart(0);
        x.pack(1, 6, false);
        due.is("base(1)", x.base(1), 0);
        Packstack y = apart(1);
        y.pack(1, 6, false);
        due.is("base(2), its like is the second ahead", y.base(2), Packstack.NONE);
        due.is("compared()", y.compared(), 2);
    }

    private static void greatestWindow() {
        due.promise("9: a window has as many objects as it says, directly ahead");
        for (int window = 1; window <= 8; window++) {
            Packstack within = apart(window - 1);
            within.pack(window, 1, false);
            due.is("base, with its like at the end of a window of " + window, within.base(window), 0);
            Packstack beyond = apart(window);
            beyond.pack(window, 1, false);
            due.is("base, with its like just beyond a window of " + window, beyond.base(window + 1), Packstack.NONE);
        }
    }

    private static void fewerAheadThanTheWindow() {
        due.promise("9 and 12: as many objects as the window, or as there are");
        // All whole, so that all that are looked at are candidates.
        for (int window = 1; window <= 8; window++) {
            Packstack x = Samples.stored(1, 2, 3, 4, 5, 6, 7, 8, 9, 10);
            x.pack(window, 1, false);
            int compared = 0;
            for (int ahead = 0; ahead < 10; ahead++) {
                compared += Math.min(ahead, window);
            }
            due.is("compared() with a window of " + window, x.compared(), compared);
        }
    }

    private static void tooDeepOnesTakeUpTheWindow() {
        due.promise("9: those of the window that have a depth below the bound are the candidates");
        Packstack x = Samples.alike(4);
        due.is("pack(2, 1, false)", x.pack(2, 1, false), 5 + 3 + 3 + 5);
        bases(x, Packstack.NONE, 0, 0, Packstack.NONE);
        due.is("compared()", x.compared(), 2);
    }

    private static void boundOf0() {
        due.promise("9: with a bound of 0 all forms are whole");
        Packstack x = Samples.alike(3);
        due.is("pack(8, 0, false)", x.pack(8, 0, false), 15);
        bases(x, Packstack.NONE, Packstack.NONE, Packstack.NONE);
        due.is("compared()", x.compared(), 0);
        x.pack(8, 6, false);
        due.is("pack(8, 0, true)", x.pack(8, 0, true), 15);
        due.is("reused()", x.reused(), 0);
        due.is("compared()", x.compared(), 0);
    }

    private static void boundOf1() {
        due.promise("9: with a bound of 1 the bases are whole");
        Packstack x = Samples.alike(3);
        due.is("pack(8, 1, false)", x.pack(8, 1, false), 11);
        bases(x, Packstack.NONE, 0, 0);
        due.is("compared()", x.compared(), 2);
    }

    private static void greatestBound() {
        due.promise("9 and 18: the greatest depth is the bound");
        for (int bound = 0; bound <= 6; bound++) {
            Packstack x = Samples.alike(9);
            x.pack(1, bound, false);
            for (int object = 0; object < 9; object++) {
                due.is("depth(" + object + ") with a bound of " + bound, x.depth(object), object % (bound + 1));
            }
        }
    }

    private static void nearestOfTheCheapest() {
        due.promise("9: the least cost, of several the nearest ahead");
        Packstack x = new Packstack();
        x.store(1, 0x123456L);
        x.store(2, 0x12345691L);
        x.store(3, 0x65L);
        x.store(4, 0x123456L);
        due.is("pack(8, 6, false)", x.pack(8, 6, false), 6 + 5 + 2 + 3);
        bases(x, Packstack.NONE, 0, Packstack.NONE, 1);
        // With the nearer one too deep, the farther one that costs as much.
        due.is("pack(8, 1, false)", x.pack(8, 1, false), 6 + 5 + 2 + 3);
        bases(x, Packstack.NONE, 0, Packstack.NONE, 0);
        // A nearer one that costs more does not count.
        x.store(3, 0x123495L);
        due.is("pack(8, 2, false)", x.pack(8, 2, false), 6 + 5 + 5 + 2 + 3);
        due.is("base(3)", x.base(3), 1);
    }

    private static void notReusedUnlessAsked() {
        due.promise("9: if deltas are to be reused");
        Packstack x = Samples.chain();
        x.pack(8, 6, false);
        due.is("reused()", x.reused(), 0);
        due.is("compared()", x.compared(), 3);
        x.pack(8, 6, true);
        due.is("reused()", x.reused(), 2);
        due.is("compared()", x.compared(), 0);
    }

    private static void nothingToReuse() {
        due.promise("9: reuse without a pack before, and of objects that were not in it");
        Packstack x = Samples.alike(3);
        due.is("pack(8, 6, true), the first", x.pack(8, 6, true), 11);
        due.is("reused()", x.reused(), 0);
        due.is("compared()", x.compared(), 3);
        x.store(5, FIVE);
        due.is("pack(8, 6, true)", x.pack(8, 6, true), 14);
        due.is("reused()", x.reused(), 2);
        due.is("compared() of the new object", x.compared(), 3);
    }

    private static void baseAtTheBound() {
        due.promise("9: reused if the base has a depth below the bound");
        Packstack below = Samples.longestChain();
        below.pack(8, 6, true);
        due.is("reused() with a bound of 6", below.reused(), 6);
        for (int bound = 0; bound < 6; bound++) {
            Packstack x = Samples.longestChain();
            x.pack(8, bound, true);
            due.is("reused() with a bound of " + bound, x.reused(), bound);
            due.is("depth(" + bound + ")", x.depth(bound), bound);
            due.is("depth(6), found anew", x.depth(6), bound);
        }
    }

    private static void baseAtTheBoundInTheNewPackOnly() {
        due.promise("9: reused if the base has in the new pack a depth below the bound");
        Packstack x = Samples.packed(8, 1, FIVE, FIVE);
        x.store(1, FIVE);
        due.is("pack(8, 1, true)", x.pack(8, 1, true), 11);
        bases(x, 2, 2, Packstack.NONE);
        due.is("reused(), the base is at the bound now", x.reused(), 0);
        due.is("compared()", x.compared(), 2);

        Packstack y = Samples.packed(8, 1, FIVE, FIVE);
        y.store(1, FIVE);
        due.is("pack(8, 2, true)", y.pack(8, 2, true), 11);
        bases(y, 2, 0, Packstack.NONE);
        due.is("depth(1), reused and deeper", y.depth(1), 2);
        due.is("reused()", y.reused(), 1);
        due.is("compared()", y.compared(), 1);
    }

    private static void baseLessDeepInTheNewPack() {
        due.promise("9 and 18: a reused delta is 1 deeper than its base in the new pack");
        Packstack x = Samples.chain();
        x.delete(0);
        due.is("pack(8, 1, true)", x.pack(8, 1, true), 8);
        due.is("depth(1)", x.depth(1), 0);
        due.is("base(2)", x.base(2), 1);
        due.is("depth(2)", x.depth(2), 1);
        due.is("reused(), the base was at the bound before", x.reused(), 1);
    }

    private static void damagedDelta() {
        due.promise("9: a damaged delta is not reused");
        Packstack x = Samples.packed(8, 6, FIVE, FIVE);
        x.damage(1);
        due.is("pack(8, 6, true)", x.pack(8, 6, true), 8);
        due.is("reused()", x.reused(), 0);
        due.is("compared()", x.compared(), 1);
        due.is("base(1)", x.base(1), 0);
        x.pack(8, 6, true);
        due.is("reused() in the pack after", x.reused(), 1);
    }

    private static void soundDeltaOfADamagedBase() {
        due.promise("9: a sound delta is reused even if the form of its base was damaged");
        Packstack x = Samples.packed(8, 6, FIVE, FIVE);
        x.damage(0);
        due.is("pack(8, 6, true)", x.pack(8, 6, true), 8);
        due.is("reused()", x.reused(), 1);
        due.is("compared()", x.compared(), 0);
        due.is("prune(), both are sound now", x.prune(), 2);
    }

    private static void baseNotInTheNewPack() {
        due.promise("9: not reused if the base does not come earlier in the order");
        Packstack deleted = Samples.packed(8, 6, FIVE, FIVE);
        deleted.delete(0);
        due.is("pack(8, 6, true), the base deleted", deleted.pack(8, 6, true), 5);
        due.is("base(1)", deleted.base(1), Packstack.NONE);
        due.is("reused()", deleted.reused(), 0);

        Packstack lost = Samples.packed(8, 6, FIVE);
        lost.prune();
        lost.store(5, FIVE);
        lost.pack(8, 6, false);
        lost.damage(0);
        due.is("pack(8, 6, true), the base lost", lost.pack(8, 6, true), 5);
        due.is("base(1), which was loose", lost.base(1), Packstack.NONE);
        due.is("reused()", lost.reused(), 0);
    }

    private static void wholeFormIsNotReused() {
        due.promise("9: only a delta is reused");
        Packstack x = Samples.packed(8, 6, FIVE);
        x.store(1, FIVE);
        due.is("pack(8, 6, true)", x.pack(8, 6, true), 8);
        due.is("base(0), whole before", x.base(0), 1);
        due.is("reused()", x.reused(), 0);
        due.is("compared()", x.compared(), 1);
    }

    private static void onlyThePackJustBefore() {
        due.promise("9: a delta of the pack before, not of an earlier one");
        Packstack x = Samples.chain();
        x.pack(8, 0, false);
        due.is("pack(8, 6, true)", x.pack(8, 6, true), 11);
        due.is("reused()", x.reused(), 0);
        due.is("compared()", x.compared(), 3);
        due.badArgument("pack(8, 7, true)", () -> x.pack(8, 7, true));
        x.pack(8, 6, true);
        due.is("reused() after a refused pack", x.reused(), 2);
    }

    private static void reusedThoughThereIsABetterOne() {
        due.promise("9: reused before candidates are looked at");
        Packstack x = new Packstack();
        x.store(1, FIVE);
        x.store(5, 0x123459L);
        x.pack(8, 6, false);
        x.store(4, 0x123459L);
        due.is("pack(8, 6, true)", x.pack(8, 6, true), 5 + 4 + 4);
        bases(x, Packstack.NONE, 0, 0);
        due.is("parts(1)", x.parts(1), 2);
        due.is("costOf(1)", x.costOf(1), 4);
        due.is("reused()", x.reused(), 1);
        due.is("compared()", x.compared(), 1);
        due.is("pack(8, 6, false)", x.pack(8, 6, false), 5 + 3 + 4);
        due.is("base(1)", x.base(1), 2);
    }

    private static void reusedBeyondTheWindow() {
        due.promise("9: reused even if the base is beyond the window");
        Packstack x = apart(0);
        x.pack(1, 1, false);
        for (int i = 0; i < 9; i++) {
            x.store(1, 0x6L);
        }
        due.is("pack(1, 1, true)", x.pack(1, 1, true), 5 + 9 + 3);
        due.is("base(1)", x.base(1), 0);
        due.is("reused()", x.reused(), 1);
        due.is("pack(8, 1, false)", x.pack(8, 1, false), 5 + 9 + 5);
    }

    private static void all40Reused() {
        due.promise("13: as many reused as there are deltas");
        Packstack x = Samples.alike(40);
        x.pack(8, 6, false);
        due.is("pack(1, 6, true)", x.pack(1, 6, true), 126);
        due.is("reused()", x.reused(), 37);
        // 14 and 28 are whole: directly ahead of each is one at the bound.
        due.is("compared()", x.compared(), 0);
        x.pack(8, 6, false);
        due.is("reused() of the next pack", x.reused(), 0);
        due.is("compared() of the next pack", x.compared(), 141);
    }

    private static void noPackYet() {
        due.promise("12 and 13: 0 if no pack was made");
        Packstack x = Samples.alike(3);
        due.is("compared()", x.compared(), 0);
        due.is("reused()", x.reused(), 0);
        due.badArgument("pack(0, 1, true)", () -> x.pack(0, 1, true));
        due.is("compared() after a refused pack", x.compared(), 0);
        x.prune();
        due.is("compared()", x.compared(), 0);
    }
}
