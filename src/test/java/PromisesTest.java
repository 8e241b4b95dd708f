/** For each promise: ordinary calls, the edges that the document names, and wrong arguments. */
public final class PromisesTest {
    private static final Due due = new Due();

    public static void main(String[] args) {
        newObject();
        store();
        storeRefused();
        delete();
        objects();
        isLive();
        isLoose();
        canRead();
        read();
        packOrder();
        packChoice();
        packWindowAndBound();
        packReuse();
        packReadableOnly();
        packRefused();
        prune();
        damage();
        compared();
        reused();
        forms();
        cost();
        costOf();
        base();
        depth();
        parts();
        dependents();
        deltaCost();
        hash();
        indexAt();
        fanOut();
        find();
        looks();
        due.close("PromisesTest");
    }

    private static void newObject() {
        due.promise("1");
        Packstack x = new Packstack();
        due.is("objects()", x.objects(), 0);
        due.is("forms()", x.forms(), 0);
        due.is("cost()", x.cost(), 0);
        due.is("compared()", x.compared(), 0);
        due.is("reused()", x.reused(), 0);
        due.is("prune()", x.prune(), 0);
        due.is("fanOut(0)", x.fanOut(0), 0);
        due.is("fanOut(15)", x.fanOut(15), 0);
        due.is("find(232)", x.find(232), Packstack.NONE);
        due.is("looks(232)", x.looks(232), 0);
        due.badPlace("indexAt(0)", () -> x.indexAt(0));
        due.badPlace("isLive(0)", () -> x.isLive(0));
        due.is("pack(1, 0, true)", x.pack(1, 0, true), 0);
        due.is("forms()", x.forms(), 0);
    }

    private static void store() {
        due.promise("2");
        Packstack x = new Packstack();
        due.is("store(0, 1)", x.store(0, 0x1L), 0);
        due.is("store(99, 15 letters)", x.store(99, 0xFFFFFFFFFFFFFFFL), 1);
        due.is("store(99, 15 letters)", x.store(99, 0x111111111111111L), 2);
        due.is("store(0, 1)", x.store(0, 0x1L), 3);
        due.is("read(1)", x.read(1), 0xFFFFFFFFFFFFFFFL);
        due.is("isLive(3)", x.isLive(3), true);
        due.is("isLoose(3)", x.isLoose(3), true);
        due.is("forms()", x.forms(), 0);
        due.badState("costOf(0)", () -> x.costOf(0));
        for (int number = 4; number < 40; number++) {
            due.is("store(7, 0x12)", x.store(7, 0x12L), number);
        }
        due.badState("store(7, 0x12) as the 41st", () -> x.store(7, 0x12L));
        due.badArgument("store(100, 0x12) as the 41st", () -> x.store(100, 0x12L));
        due.badArgument("store(7, 0) as the 41st", () -> x.store(7, 0L));
        x.delete(0);
        due.badState("store(7, 0x12) after a deletion", () -> x.store(7, 0x12L));
        due.is("objects()", x.objects(), 40);
    }

    private static void storeRefused() {
        Packstack x = new Packstack();
        long[] noContents = {0L, -1L, 0x10L, 0x102L, 0x1203L, 0x100000000000001L, 1L << 60,
            0x1111111111111111L, 0x7FFFFFFFFFFFFFFFL, Long.MIN_VALUE, -0x12L};
        for (long content : noContents) {
            due.badArgument("store(5, " + content + ")", () -> x.store(5, content));
        }
        for (int name : new int[] {-1, 100, Integer.MIN_VALUE, Integer.MAX_VALUE}) {
            due.badArgument("store(" + name + ", 1)", () -> x.store(name, 1L));
        }
        due.is("objects()", x.objects(), 0);
        due.is("store(5, 1)", x.store(5, 1L), 0);
    }

    private static void delete() {
        due.promise("3");
        Packstack x = Samples.packed(8, 6, 0x12345L, 0x12345L, 0x9L);
        due.is("delete(0)", x.delete(0), 2);
        due.is("isLive(0)", x.isLive(0), false);
        due.is("isLoose(0)", x.isLoose(0), false);
        due.is("canRead(0)", x.canRead(0), false);
        due.is("forms() before the next pack", x.forms(), 3);
        due.is("costOf(0) before the next pack", x.costOf(0), 5);
        due.is("base(1)", x.base(1), 0);
        due.is("prune()", x.prune(), 2);
        due.is("canRead(1) from the form of a deleted base", x.canRead(1), true);
        due.badState("delete(0) again", () -> x.delete(0));
        due.badPlace("delete(3)", () -> x.delete(3));
        due.badPlace("delete(-1)", () -> x.delete(-1));
        due.is("delete(2)", x.delete(2), 1);
        due.is("delete(1)", x.delete(1), 0);
        due.is("objects()", x.objects(), 3);
        due.is("pack(1, 1, true)", x.pack(1, 1, true), 0);
        due.badState("costOf(0) after the next pack", () -> x.costOf(0));
        Packstack y = Samples.stored(0x1L, 0x1L, 0x1L);
        due.is("delete(2) with 0 live", y.delete(2), 2);
        due.is("delete(1) with 0 live", y.delete(1), 1);
    }

    private static void objects() {
        due.promise("4");
        Packstack x = Samples.stored(0x1L, 0x2L);
        due.is("objects()", x.objects(), 2);
        x.delete(1);
        due.is("objects() after a deletion", x.objects(), 2);
        x.pack(1, 1, false);
        due.is("objects() after a pack", x.objects(), 2);
    }

    private static void isLive() {
        due.promise("5");
        Packstack x = Samples.packed(1, 1, 0x1L, 0x2L);
        x.prune();
        x.damage(0);
        due.is("isLive(0) unreadable", x.isLive(0), true);
        x.pack(1, 1, false);
        due.is("isLive(0) without a form", x.isLive(0), true);
        x.delete(1);
        due.is("isLive(1)", x.isLive(1), false);
        due.badPlace("isLive(2)", () -> x.isLive(2));
        due.badPlace("isLive(-1)", () -> x.isLive(-1));
        due.badPlace("isLive(least)", () -> x.isLive(Integer.MIN_VALUE));
    }

    private static void isLoose() {
        due.promise("6");
        Packstack x = Samples.stored(0x1L, 0x2L);
        due.is("isLoose(0)", x.isLoose(0), true);
        x.pack(1, 1, false);
        due.is("isLoose(0) after a pack", x.isLoose(0), true);
        x.prune();
        due.is("isLoose(0) after prune", x.isLoose(0), false);
        x.store(1, 0x3L);
        due.is("isLoose(2)", x.isLoose(2), true);
        x.delete(2);
        due.is("isLoose(2) deleted", x.isLoose(2), false);
        x.damage(0);
        due.is("isLoose(0) lost", x.isLoose(0), false);
        due.badPlace("isLoose(3)", () -> x.isLoose(3));
        due.badPlace("isLoose(-1)", () -> x.isLoose(-1));
    }

    private static void canRead() {
        due.promise("7");
        Packstack x = Samples.chain();
        x.damage(1);
        due.is("canRead(2) loose", x.canRead(2), true);
        x.prune();
        due.is("canRead(0) whole", x.canRead(0), true);
        due.is("canRead(1) loose", x.canRead(1), true);
        due.is("canRead(2) loose, its base damaged", x.canRead(2), true);
        Packstack y = Samples.chain();
        y.prune();
        due.is("canRead(2) through the chain", y.canRead(2), true);
        y.delete(0);
        due.is("canRead(0) deleted", y.canRead(0), false);
        due.is("canRead(2) through a deleted base", y.canRead(2), true);
        y.damage(0);
        due.is("canRead(1) its base damaged", y.canRead(1), false);
        due.is("canRead(2) the base of its base damaged", y.canRead(2), false);
        due.badPlace("canRead(3)", () -> y.canRead(3));
        due.badPlace("canRead(-1)", () -> y.canRead(-1));
    }

    private static void read() {
        due.promise("8");
        Packstack x = Samples.chain();
        x.store(3, 0xABCL);
        due.is("read(3) loose", x.read(3), 0xABCL);
        x.prune();
        due.is("read(2) from the pack", x.read(2), 0x12345L);
        x.damage(1);
        due.badState("read(2)", () -> x.read(2));
        due.badState("read(1)", () -> x.read(1));
        due.is("read(0)", x.read(0), 0x12345L);
        x.delete(0);
        due.badState("read(0) deleted", () -> x.read(0));
        due.badPlace("read(4)", () -> x.read(4));
        due.badPlace("read(-1)", () -> x.read(-1));
    }

    private static void packOrder() {
        due.promise("9, order");
        Packstack byName = new Packstack();
        byName.store(2, 0x12345L);
        byName.store(1, 0x1234L);
        due.is("pack(1, 1, false)", byName.pack(1, 1, false), 8);
        due.is("base(0) of the greater name", byName.base(0), 1);
        due.is("base(1)", byName.base(1), Packstack.NONE);

        Packstack byLetters = Samples.stored(0x1234L, 0x12345L);
        due.is("pack(1, 1, false)", byLetters.pack(1, 1, false), 8);
        due.is("base(0) with fewer letters", byLetters.base(0), 1);
        due.is("base(1)", byLetters.base(1), Packstack.NONE);

        Packstack byNumber = Samples.stored(0x1234L, 0x1234L);
        due.is("pack(1, 1, false)", byNumber.pack(1, 1, false), 7);
        due.is("base(0)", byNumber.base(0), Packstack.NONE);
        due.is("base(1) of the greater number", byNumber.base(1), 0);
    }

    private static void packChoice() {
        due.promise("9, choice");
        Packstack equalCost = Samples.packed(8, 6, 0x123L, 0x123L);
        due.is("base(1) for a delta that costs as much", equalCost.base(1), Packstack.NONE);
        due.is("cost()", equalCost.cost(), 6);

        Packstack tied = Samples.packed(8, 6, 0x12345L, 0x12345L, 0x12345L);
        due.is("base(2) of several the nearest", tied.base(2), 1);
        due.is("cost()", tied.cost(), 11);

        // Ahead of 2: 0 far off, to be copied whole, and 1 nearest, to be copied in two.
        Packstack cheapest = Samples.packed(8, 6, 0x1234561L, 0x4561123L, 0x123456L);
        due.is("base(2) of several the cheapest", cheapest.base(2), 0);
        due.is("costOf(2)", cheapest.costOf(2), 3);

        Packstack alien = Samples.packed(8, 6, 0x12345L, 0x6789AL);
        due.is("base(1) with nothing to copy", alien.base(1), Packstack.NONE);
        due.is("costOf(1)", alien.costOf(1), 5);
    }

    private static void packWindowAndBound() {
        due.promise("9, window and bound");
        Packstack x = Samples.stored(0x12345L, 0x12345L, 0x12345L, 0x12345L);
        due.is("pack(8, 0, false)", x.pack(8, 0, false), 20);
        due.is("depth(1)", x.depth(1), 0);
        due.is("pack(1, 1, false)", x.pack(1, 1, false), 16);
        due.is("base(2) with a candidate too deep", x.base(2), Packstack.NONE);
        due.is("base(3)", x.base(3), 2);
        due.is("pack(2, 1, false)", x.pack(2, 1, false), 16);
        due.is("base(2) at the window's end", x.base(2), 0);
        due.is("base(3) beyond the window", x.base(3), Packstack.NONE);
        due.is("pack(3, 1, false)", x.pack(3, 1, false), 14);
        due.is("base(3) at the window's end", x.base(3), 0);
        due.is("pack(1, 2, false)", x.pack(1, 2, false), 16);
        due.is("depth(2)", x.depth(2), 2);
        due.is("depth(3)", x.depth(3), 0);
        Packstack deep = Samples.packed(1, 6, 0x1234L, 0x1234L, 0x1234L, 0x1234L, 0x1234L, 0x1234L, 0x1234L, 0x1234L);
        due.is("depth(6)", deep.depth(6), 6);
        due.is("depth(7) beyond the greatest bound", deep.depth(7), 0);
    }

    private static void packReuse() {
        due.promise("9, reuse");
        Packstack bounded = Samples.chain();
        due.is("pack(8, 1, true)", bounded.pack(8, 1, true), 11);
        due.is("base(1) reused", bounded.base(1), 0);
        due.is("base(2) found anew, its base at the bound", bounded.base(2), 0);
        due.is("reused()", bounded.reused(), 1);

        Packstack gone = Samples.chain();
        gone.delete(0);
        due.is("pack(8, 6, true)", gone.pack(8, 6, true), 8);
        due.is("base(1), its base gone", gone.base(1), Packstack.NONE);
        due.is("base(2) reused", gone.base(2), 1);
        due.is("depth(2) reused, less deep", gone.depth(2), 1);
        due.is("reused()", gone.reused(), 1);
        due.is("compared()", gone.compared(), 0);

        Packstack damaged = Samples.chain();
        damaged.damage(1);
        damaged.pack(8, 6, true);
        due.is("reused() without the damaged delta, but with one against it", damaged.reused(), 1);
        due.is("compared()", damaged.compared(), 1);

        Packstack wholeDamaged = Samples.chain();
        wholeDamaged.damage(0);
        wholeDamaged.pack(8, 6, true);
        due.is("reused() with a damaged base", wholeDamaged.reused(), 2);
        wholeDamaged.prune();
        due.is("canRead(2) after the new pack", wholeDamaged.canRead(2), true);
        due.is("damage(2): the new form is not damaged", wholeDamaged.damage(2), 1);
        packReuseOverBetter();
    }

    private static void packReuseOverBetter() {
        Packstack x = new Packstack();
        x.store(1, 0x456123L);
        x.store(3, 0x123456L);
        due.is("pack(8, 6, false)", x.pack(8, 6, false), 11);
        x.store(2, 0x123456L);
        due.is("pack(8, 6, true)", x.pack(8, 6, true), 16);
        due.is("base(1) reused, though a better one is nearer", x.base(1), 0);
        due.is("costOf(1)", x.costOf(1), 5);
        due.is("parts(1)", x.parts(1), 2);
        due.is("compared()", x.compared(), 1);
        due.is("pack(1, 6, true)", x.pack(1, 6, true), 16);
        due.is("base(1) reused, beyond the window", x.base(1), 0);
        due.is("pack(8, 6, false)", x.pack(8, 6, false), 14);
        due.is("base(1) found anew", x.base(1), 2);
        due.is("reused()", x.reused(), 0);
    }

    private static void packReadableOnly() {
        due.promise("9, what is packed");
        Packstack x = Samples.chain();
        x.prune();
        x.damage(1);
        x.store(5, 0x7L);
        x.delete(0);
        due.is("pack(8, 6, true)", x.pack(8, 6, true), 1);
        due.is("forms()", x.forms(), 1);
        due.badState("depth(0) deleted", () -> x.depth(0));
        due.badState("depth(1) unreadable", () -> x.depth(1));
        due.badState("depth(2) unreadable", () -> x.depth(2));
        due.is("depth(3)", x.depth(3), 0);
        due.is("isLoose(3)", x.isLoose(3), true);
    }

    private static void packRefused() {
        due.promise("9, refused");
        Packstack x = Samples.chain();
        for (int window : new int[] {0, 9, -1, Integer.MIN_VALUE, Integer.MAX_VALUE}) {
            due.badArgument("pack(" + window + ", 1, false)", () -> x.pack(window, 1, false));
        }
        for (int bound : new int[] {-1, 7, Integer.MIN_VALUE, Integer.MAX_VALUE}) {
            due.badArgument("pack(1, " + bound + ", true)", () -> x.pack(1, bound, true));
        }
        due.is("cost()", x.cost(), 11);
        due.is("compared()", x.compared(), 3);
        due.is("pack(8, 6, false)", x.pack(8, 6, false), 11);
        due.is("pack(1, 0, false)", x.pack(1, 0, false), 15);
    }

    private static void prune() {
        due.promise("10");
        Packstack x = Samples.stored(0x12345L, 0x12345L, 0x12345L, 0x9L);
        due.is("prune() without a pack", x.prune(), 0);
        x.pack(8, 6, false);
        x.store(5, 0x3L);
        x.damage(1);
        due.is("prune()", x.prune(), 2);
        due.is("isLoose(0)", x.isLoose(0), false);
        due.is("isLoose(1) damaged", x.isLoose(1), true);
        due.is("isLoose(2) its base damaged", x.isLoose(2), true);
        due.is("isLoose(3)", x.isLoose(3), false);
        due.is("isLoose(4) not in the pack", x.isLoose(4), true);
        due.is("prune() again", x.prune(), 0);
        x.pack(8, 6, false);
        x.delete(2);
        due.is("prune() without those pruned or deleted", x.prune(), 2);
    }

    private static void damage() {
        due.promise("11");
        Packstack x = Samples.chain();
        x.delete(2);
        due.is("damage(1): loose and deleted ones count", x.damage(1), 2);
        due.badState("damage(1) again", () -> x.damage(1));
        due.is("damage(2), which could not be read before", x.damage(2), 0);
        due.is("damage(0): the others could not be read before", x.damage(0), 1);
        due.badState("damage(0) again", () -> x.damage(0));
        due.is("forms()", x.forms(), 3);
        due.is("cost()", x.cost(), 11);
        due.badPlace("damage(3)", () -> x.damage(3));
        due.badPlace("damage(-1)", () -> x.damage(-1));
        x.store(5, 0x4L);
        due.badState("damage(3) without a form", () -> x.damage(3));
        x.pack(8, 6, true);
        due.is("damage(0) in a new pack", x.damage(0), 2);
        due.badState("damage(2) whose form went with the pack", () -> x.damage(2));
    }

    private static void compared() {
        due.promise("12");
        Packstack x = Samples.stored(0x12345L, 0x12345L, 0x12345L, 0x12345L);
        due.is("compared() without a pack", x.compared(), 0);
        x.pack(8, 6, false);
        due.is("compared()", x.compared(), 6);
        x.pack(2, 6, false);
        due.is("compared() with a window of 2", x.compared(), 5);
        x.pack(8, 1, false);
        due.is("compared() with candidates too deep", x.compared(), 3);
        x.pack(8, 1, true);
        due.is("compared() with all reused", x.compared(), 0);
        x.pack(8, 0, false);
        due.is("compared() with none allowed", x.compared(), 0);
        Packstack costly = Samples.packed(8, 6, 0x123L, 0x456L);
        due.is("compared() though the form is whole", costly.compared(), 1);
    }

    private static void reused() {
        due.promise("13");
        Packstack x = Samples.chain();
        due.is("reused() in a first pack", x.reused(), 0);
        x.pack(8, 6, true);
        due.is("reused()", x.reused(), 2);
        due.is("cost()", x.cost(), 11);
        x.pack(8, 6, false);
        due.is("reused() without reuse", x.reused(), 0);
        x.store(5, 0x12345L);
        x.pack(8, 6, true);
        due.is("reused() with a new object", x.reused(), 2);
        x.pack(8, 0, true);
        due.is("reused() with a bound of 0", x.reused(), 0);
        x.pack(8, 6, true);
        due.is("reused() after whole forms", x.reused(), 0);
    }

    private static void forms() {
        due.promise("14");
        Packstack x = Samples.stored(0x1L, 0x2L);
        due.is("forms() without a pack", x.forms(), 0);
        x.pack(1, 1, false);
        due.is("forms()", x.forms(), 2);
        x.store(5, 0x3L);
        x.delete(0);
        x.damage(1);
        due.is("forms() of deleted and damaged ones too", x.forms(), 2);
        x.pack(1, 1, false);
        due.is("forms() of the next pack", x.forms(), 2);
        due.is("indexAt(1)", x.indexAt(1), 2);
    }

    private static void cost() {
        due.promise("15");
        Packstack x = Samples.chain();
        due.is("cost()", x.cost(), 11);
        x.store(5, 0x123L);
        due.is("cost() after a store", x.cost(), 11);
        x.delete(0);
        x.damage(1);
        due.is("cost() with deleted and damaged ones", x.cost(), 11);
        due.is("pack(8, 0, false)", x.pack(8, 0, false), 13);
        due.is("cost()", x.cost(), 13);
    }

    private static void costOf() {
        due.promise("16");
        Packstack x = Samples.packed(8, 6, 0x123456789L, 0x1234BC89L);
        due.is("costOf(0)", x.costOf(0), 9);
        due.is("costOf(1): two copies, two letters", x.costOf(1), 7);
        x.damage(1);
        due.is("costOf(1) damaged", x.costOf(1), 7);
        x.store(5, 0x1L);
        due.badState("costOf(2)", () -> x.costOf(2));
        due.badPlace("costOf(3)", () -> x.costOf(3));
        due.badPlace("costOf(-1)", () -> x.costOf(-1));
    }

    private static void base() {
        due.promise("17");
        Packstack x = Samples.chain();
        due.is("base(0)", x.base(0), Packstack.NONE);
        due.is("NONE", Packstack.NONE, -1);
        due.is("base(1)", x.base(1), 0);
        due.is("base(2)", x.base(2), 1);
        x.delete(1);
        due.is("base(2) deleted", x.base(2), 1);
        x.store(5, 0x1L);
        due.badState("base(3)", () -> x.base(3));
        due.badPlace("base(4)", () -> x.base(4));
        due.badPlace("base(-1)", () -> x.base(-1));
    }

    private static void depth() {
        due.promise("18");
        Packstack x = Samples.chain();
        due.is("depth(0)", x.depth(0), 0);
        due.is("depth(1)", x.depth(1), 1);
        due.is("depth(2)", x.depth(2), 2);
        x.store(5, 0x1L);
        due.badState("depth(3)", () -> x.depth(3));
        due.badPlace("depth(4)", () -> x.depth(4));
        due.badPlace("depth(-1)", () -> x.depth(-1));
    }

    private static void parts() {
        due.promise("19");
        Packstack x = Samples.packed(8, 6, 0x123456789L, 0x1234BC89L, 0x1234567L);
        due.is("parts(0) whole", x.parts(0), 1);
        due.is("parts(1): two copies, two letters", x.parts(1), 4);
        due.is("parts(2): a copy", x.parts(2), 1);
        x.store(5, 0x1L);
        due.badState("parts(3)", () -> x.parts(3));
        due.badPlace("parts(4)", () -> x.parts(4));
        due.badPlace("parts(-1)", () -> x.parts(-1));
    }

    private static void dependents() {
        due.promise("20");
        Packstack x = Samples.chain();
        due.is("dependents(0), over the chain", x.dependents(0), 2);
        due.is("dependents(1)", x.dependents(1), 1);
        due.is("dependents(2)", x.dependents(2), 0);
        x.delete(2);
        x.damage(1);
        due.is("dependents(0) with deleted and damaged ones", x.dependents(0), 2);
        x.store(5, 0x1L);
        due.badState("dependents(3)", () -> x.dependents(3));
        due.badPlace("dependents(4)", () -> x.dependents(4));
        due.badPlace("dependents(-1)", () -> x.dependents(-1));
        x.pack(8, 6, false);
        due.is("dependents(0) in the next pack", x.dependents(0), 1);
    }

    private static void deltaCost() {
        due.promise("21");
        Packstack x = Samples.stored(0x123456L, 0x12L, 0x1L, 0x3456129L, 0x2323L, 0x121312L);
        due.is("deltaCost(0, 0)", x.deltaCost(0, 0), 3);
        due.is("deltaCost(1, 0): a copy of 2 letters", x.deltaCost(1, 0), 3);
        due.is("deltaCost(2, 2): no copy of 1 letter", x.deltaCost(2, 2), 2);
        due.is("deltaCost(0, 2)", x.deltaCost(0, 2), 7);
        due.is("deltaCost(3, 0): two copies, a letter", x.deltaCost(3, 0), 6);
        due.is("deltaCost(0, 3)", x.deltaCost(0, 3), 5);
        due.is("deltaCost(4, 0): the same copy twice", x.deltaCost(4, 0), 5);
        due.is("deltaCost(4, 4): the longest copy", x.deltaCost(4, 4), 3);
        due.is("deltaCost(0, 5): letters that stand alone", x.deltaCost(0, 5), 7);
        due.is("deltaCost(5, 0)", x.deltaCost(5, 0), 7);
        Packstack greedy = Samples.stored(0x123145L, 0x1231914523L);
        due.is("deltaCost(0, 1): 1231, not 123, then 45", greedy.deltaCost(0, 1), 5);
        Packstack greedyWorse = Samples.stored(0x12345678L, 0x1239345678L);
        due.is("deltaCost(0, 1): 123, then 45678", greedyWorse.deltaCost(0, 1), 5);
        Packstack greedyLetter = Samples.stored(0x1234L, 0x1239234L);
        due.is("deltaCost(0, 1): 123, then 4, not 1, then 234", greedyLetter.deltaCost(0, 1), 4);
        x.delete(0);
        x.pack(1, 1, false);
        due.is("deltaCost(1, 0), the base deleted", x.deltaCost(1, 0), 3);
        due.is("deltaCost(0, 1), the object deleted", x.deltaCost(0, 1), 7);
        Packstack full = Samples.stored(0xFFFFFFFFFFFFFFFL, 0x111111111111111L, 0xFFL);
        due.is("deltaCost(0, 0)", full.deltaCost(0, 0), 3);
        due.is("deltaCost(0, 1)", full.deltaCost(0, 1), 16);
        due.is("deltaCost(0, 2)", full.deltaCost(0, 2), 16);
        for (int wrong : new int[] {-1, 6, Integer.MIN_VALUE, Integer.MAX_VALUE}) {
            due.badPlace("deltaCost(" + wrong + ", 0)", () -> x.deltaCost(wrong, 0));
            due.badPlace("deltaCost(0, " + wrong + ")", () -> x.deltaCost(0, wrong));
        }
    }

    private static void hash() {
        due.promise("22");
        Packstack x = new Packstack();
        due.is("hash(0x1)", x.hash(0x1L), 232);
        due.is("hash(0xF)", x.hash(0xFL), 246);
        due.is("hash(0x12)", x.hash(0x12L), 3562);
        due.is("hash(0x21)", x.hash(0x21L), 3594);
        due.is("hash(0x123456)", x.hash(0x123456L), 2492);
        due.is("hash(15 times 15)", x.hash(0xFFFFFFFFFFFFFFFL), 744);
        due.is("hash(15 times 1)", x.hash(0x111111111111111L), 598);
        for (long content : new long[] {0L, -1L, 0x10L, 0x101L, 1L << 60, 0x1111111111111111L, Long.MIN_VALUE}) {
            due.badArgument("hash(" + content + ")", () -> x.hash(content));
        }
    }

    private static void indexAt() {
        due.promise("23");
        // Their hashes: 234, 3562, 232, 3562, 233.
        Packstack x = Samples.stored(0x3L, 0x12L, 0x1L, 0x12L, 0x2L);
        due.badPlace("indexAt(0) without a pack", () -> x.indexAt(0));
        x.pack(8, 6, false);
        int[] wanted = {2, 4, 0, 1, 3};
        for (int place = 0; place < wanted.length; place++) {
            due.is("indexAt(" + place + ")", x.indexAt(place), wanted[place]);
        }
        due.badPlace("indexAt(5)", () -> x.indexAt(5));
        due.badPlace("indexAt(-1)", () -> x.indexAt(-1));
        x.delete(2);
        x.damage(4);
        due.is("indexAt(0) deleted", x.indexAt(0), 2);
        due.is("indexAt(1) damaged", x.indexAt(1), 4);
        x.pack(8, 6, false);
        due.is("indexAt(0) in the next pack", x.indexAt(0), 4);
        due.badPlace("indexAt(4)", () -> x.indexAt(4));
        // Numbers decide among equal hashes, not the order of the pack.
        Packstack y = new Packstack();
        y.store(9, 0x12L);
        y.store(1, 0x12L);
        y.pack(1, 0, false);
        due.is("indexAt(0)", y.indexAt(0), 0);
        due.is("indexAt(1)", y.indexAt(1), 1);
    }

    private static void fanOut() {
        due.promise("24");
        // Their hashes: 255, 256, 511, 512, 3839, 3840.
        Packstack x = Samples.stored(0x2E8L, 0x2E9L, 0x6E4L, 0x6E5L, 0x9FL, 0xD84L);
        due.is("fanOut(15) without a pack", x.fanOut(15), 0);
        x.pack(8, 6, false);
        due.is("fanOut(0)", x.fanOut(0), 1);
        due.is("fanOut(1)", x.fanOut(1), 3);
        for (int b = 2; b < 14; b++) {
            due.is("fanOut(" + b + ")", x.fanOut(b), 4);
        }
        due.is("fanOut(14)", x.fanOut(14), 5);
        due.is("fanOut(15)", x.fanOut(15), 6);
        x.delete(0);
        due.is("fanOut(0) with a deleted one", x.fanOut(0), 1);
        x.pack(8, 6, false);
        due.is("fanOut(0) in the next pack", x.fanOut(0), 0);
        for (int b : new int[] {-1, 16, Integer.MIN_VALUE, Integer.MAX_VALUE}) {
            due.badArgument("fanOut(" + b + ")", () -> x.fanOut(b));
        }
    }

    private static void find() {
        due.promise("25");
        Packstack x = Samples.stored(0x3L, 0x12L, 0x1L, 0x2L, 0x2E8L, 0x2E9L);
        due.is("find(232) without a pack", x.find(232), Packstack.NONE);
        x.pack(8, 6, false);
        int[] hashes = {234, 3562, 232, 233, 255, 256};
        for (int object = 0; object < hashes.length; object++) {
            due.is("find(" + hashes[object] + ")", x.find(hashes[object]), object);
        }
        for (int missing : new int[] {0, 231, 235, 254, 257, 3561, 3563, 4095}) {
            due.is("find(" + missing + ")", x.find(missing), Packstack.NONE);
        }
        Packstack equal = Samples.packed(8, 6, 0x1L, 0x1L);
        due.is("find(232) of two the one that is looked at first", equal.find(232), 1);
        equal.delete(1);
        due.is("find(232) deleted", equal.find(232), 1);
        equal.pack(8, 6, false);
        due.is("find(232) in the next pack", equal.find(232), 0);
        for (int hash : new int[] {-1, 4096, Integer.MIN_VALUE, Integer.MAX_VALUE}) {
            due.badArgument("find(" + hash + ")", () -> x.find(hash));
        }
    }

    private static void looks() {
        due.promise("26");
        Packstack x = Samples.stored(0x1L, 0x2L, 0x3L, 0x12L);
        due.is("looks(232) without a pack", x.looks(232), 0);
        x.pack(8, 6, false);
        due.is("looks(233)", x.looks(233), 1);
        due.is("looks(232)", x.looks(232), 2);
        due.is("looks(234)", x.looks(234), 2);
        due.is("looks(0)", x.looks(0), 2);
        due.is("looks(240)", x.looks(240), 2);
        due.is("looks(256) with an empty part", x.looks(256), 0);
        due.is("looks(3562)", x.looks(3562), 1);
        due.is("looks(3583)", x.looks(3583), 1);
        due.is("looks(4095)", x.looks(4095), 0);
        for (int hash : new int[] {-1, 4096, Integer.MIN_VALUE, Integer.MAX_VALUE}) {
            due.badArgument("looks(" + hash + ")", () -> x.looks(hash));
        }
    }
}
