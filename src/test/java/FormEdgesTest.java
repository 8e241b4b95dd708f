/** The edges of pruning, damaging and asking for forms: promises 10, 11 and 14 to 20. */
public final class FormEdgesTest {
    private static final Due due = new Due();
    private static final long FIVE = Samples.FIVE;

    public static void main(String[] args) {
        nothingToPrune();
        pruneAll();
        pruneTwice();
        pruneOnlyWhatCanBeRead();
        damageFirstOfAChain();
        damageLastOfAChain();
        damageInTheMidst();
        damageWhatCannotBeReadAnyway();
        damageTwice();
        damageWithoutAForm();
        damageADeletedOne();
        damageIsGoneWithThePack();
        noForms();
        mostForms();
        leastAndGreatestCosts();
        baseOfAWholeForm();
        baseAtTheEnds();
        depths();
        partsOfAWholeForm();
        noDependents();
        dependentsOfAChain();
        mostDependents();
        withoutAForm();
        due.close("FormEdgesTest");
    }

    private static void nothingToPrune() {
        due.promise("10: no object");
        Packstack x = new Packstack();
        due.is("prune(), no objects", x.prune(), 0);
        x.pack(1, 1, false);
        due.is("prune(), an empty pack", x.prune(), 0);
        x.store(5, FIVE);
        due.is("prune(), not in the pack", x.prune(), 0);
        due.is("isLoose(0)", x.isLoose(0), true);
        due.is("read(0)", x.read(0), FIVE);
    }

    private static void pruneAll() {
        due.promise("10: all 40 objects");
        Packstack x = Samples.alike(40);
        due.is("prune() before a pack", x.prune(), 0);
        x.pack(8, 6, false);
        due.is("prune()", x.prune(), 40);
        for (int object = 0; object < 40; object++) {
            due.is("isLoose(" + object + ")", x.isLoose(object), false);
            due.is("read(" + object + ")", x.read(object), FIVE);
        }
    }

    private static void pruneTwice() {
        due.promise("10: objects whose loose content was given up do not count again");
        Packstack x = Samples.chain();
        due.is("prune()", x.prune(), 3);
        due.is("prune() again", x.prune(), 0);
        x.pack(8, 6, true);
        due.is("prune() after a pack", x.prune(), 0);
        x.store(5, FIVE);
        due.is("prune() with a new object", x.prune(), 0);
        x.pack(8, 6, true);
        due.is("prune() with the new object in the pack", x.prune(), 1);
    }

    private static void pruneOnlyWhatCanBeRead() {
        due.promise("10: objects that cannot be read from the pack stay loose");
        Packstack x = Samples.longestChain();
        x.damage(3);
        x.delete(1);
        due.is("prune(): 0 and 2", x.prune(), 2);
        for (int object = 0; object <= 6; object++) {
            due.is("isLoose(" + object + ")", x.isLoose(object), object >= 3);
            due.is("canRead(" + object + ")", x.canRead(object), object != 1);
        }
        x.pack(8, 6, true);
        due.is("prune() after the next pack", x.prune(), 4);
    }

    private static void damageFirstOfAChain() {
        due.promise("11: all that is read through it");
        Packstack x = Samples.longestChain();
        due.is("damage(0)", x.damage(0), 7);
        Packstack y = Samples.alike(40);
        y.pack(8, 6, false);
        due.is("damage(0)", y.damage(0), 14);
        due.is("damage(14)", y.damage(14), 14);
        due.is("damage(28)", y.damage(28), 12);
    }

    private static void damageLastOfAChain() {
        due.promise("11: nothing but itself is read through it");
        Packstack x = Samples.longestChain();
        due.is("damage(6)", x.damage(6), 1);
        Packstack whole = Samples.packed(1, 0, FIVE, FIVE);
        due.is("damage(0), whole", whole.damage(0), 1);
        due.is("damage(1), whole", whole.damage(1), 1);
    }

    private static void damageInTheMidst() {
        due.promise("11: cannot be read from the pack any more by that");
        Packstack x = Samples.longestChain();
        due.is("damage(5)", x.damage(5), 2);
        due.is("damage(2): 2, 3 and 4", x.damage(2), 3);
        due.is("damage(0): 0 and 1", x.damage(0), 2);
    }

    private static void damageWhatCannotBeReadAnyway() {
        due.promise("11: what could not be read before does not count");
        Packstack x = Samples.longestChain();
        x.damage(0);
        for (int object = 1; object <= 6; object++) {
            due.is("damage(" + object + ")", x.damage(object), 0);
        }
        due.is("forms()", x.forms(), 7);
    }

    private static void damageTwice() {
        due.promise("11: a damaged form is not damaged again");
        Packstack x = Samples.chain();
        x.damage(1);
        due.badState("damage(1)", () -> x.damage(1));
        due.is("damage(2), its base is damaged, not its own form", x.damage(2), 0);
        due.badState("damage(2)", () -> x.damage(2));
        due.is("damage(0)", x.damage(0), 1);
    }

    private static void damageWithoutAForm() {
        due.promise("11: an object without a form");
        Packstack x = Samples.stored(FIVE);
        due.badState("damage(0) without a pack", () -> x.damage(0));
        due.badPlace("damage(1)", () -> x.damage(1));
        x.pack(1, 1, false);
        x.store(5, FIVE);
        due.badState("damage(1), stored after the pack", () -> x.damage(1));
        due.is("damage(0)", x.damage(0), 1);
    }

    private static void damageADeletedOne() {
        due.promise("11: live or deleted, loose or not");
        Packstack x = Samples.packed(8, 1, FIVE, FIVE, FIVE, FIVE);
        x.delete(0);
        x.delete(1);
        x.prune();
        due.is("damage(0), deleted: deleted, loose and pruned ones count", x.damage(0), 4);
        due.is("canRead(2)", x.canRead(2), false);
        Packstack y = Samples.chain();
        y.delete(2);
        due.is("damage(1): itself, loose, and a deleted one", y.damage(1), 2);
        due.is("isLoose(1)", y.isLoose(1), true);
        due.is("isLive(1)", y.isLive(1), true);
    }

    private static void damageIsGoneWithThePack() {
        due.promise("11: a new form is not damaged");
        Packstack x = Samples.chain();
        x.damage(0);
        x.damage(1);
        x.damage(2);
        x.pack(8, 6, true);
        due.is("damage(0)", x.damage(0), 3);
        x.delete(0);
        x.pack(8, 6, true);
        due.badState("damage(0), deleted and without a form", () -> x.damage(0));
        due.is("damage(1)", x.damage(1), 2);
    }

    private static void noForms() {
        due.promise("14 and 15: no forms");
        Packstack x = Samples.alike(3);
        due.is("forms() without a pack", x.forms(), 0);
        due.is("cost() without a pack", x.cost(), 0);
        x.pack(8, 6, false);
        x.delete(0);
        x.delete(1);
        x.delete(2);
        due.is("forms(), all deleted", x.forms(), 3);
        due.is("cost(), all deleted", x.cost(), 11);
        x.pack(8, 6, false);
        due.is("forms() in the next pack", x.forms(), 0);
        due.is("cost() in the next pack", x.cost(), 0);
    }

    private static void mostForms() {
        due.promise("14 and 15: 40 forms, as dear as can be");
        Packstack x = new Packstack();
        for (int i = 0; i < 40; i++) {
            x.store(5, 0x123456789ABCDEFL);
        }
        due.is("pack(8, 0, false)", x.pack(8, 0, false), 600);
        due.is("forms()", x.forms(), 40);
        due.is("cost()", x.cost(), 600);
    }

    private static void leastAndGreatestCosts() {
        due.promise("16: the least and the greatest costs");
        Packstack x = Samples.packed(1, 1, 0x1L, 0x123456789ABCDEFL, 0x23456789ABCDEFL);
        due.is("costOf(0), whole", x.costOf(0), 1);
        due.is("costOf(1), whole", x.costOf(1), 15);
        due.is("costOf(2), a delta", x.costOf(2), 3);
        due.is("cost()", x.cost(), 19);
    }

    private static void baseOfAWholeForm() {
        due.promise("17: NONE if it is whole");
        Packstack x = Samples.packed(8, 6, FIVE, 0x6789AL, FIVE);
        due.is("NONE", Packstack.NONE, -1);
        due.is("base(0)", x.base(0), Packstack.NONE);
        due.is("base(1)", x.base(1), Packstack.NONE);
        due.is("base(2)", x.base(2), 0);
        x.damage(0);
        x.delete(0);
        due.is("base(0) damaged and deleted", x.base(0), Packstack.NONE);
        due.is("base(2) with its base damaged and deleted", x.base(2), 0);
    }

    private static void baseAtTheEnds() {
        due.promise("17: the first and the last number as a base");
        Packstack x = new Packstack();
        for (int i = 0; i < 39; i++) {
            x.store(2, FIVE);
        }
        x.store(1, FIVE);
        x.pack(1, 1, false);
        due.is("base(0)", x.base(0), 39);
        due.is("base(39)", x.base(39), Packstack.NONE);
        due.is("base(1)", x.base(1), Packstack.NONE);
        due.is("base(2)", x.base(2), 1);
        due.badPlace("base(40)", () -> x.base(40));
    }

    private static void depths() {
        due.promise("18: 0 for a whole form, 1 more than its base for a delta");
        Packstack x = Samples.longestChain();
        for (int object = 0; object <= 6; object++) {
            due.is("depth(" + object + ")", x.depth(object), object);
        }
        x.damage(3);
        x.delete(2);
        due.is("depth(6) with a damaged and a deleted one in its chain", x.depth(6), 6);
        due.is("depth(3) damaged", x.depth(3), 3);
        due.is("depth(2) deleted", x.depth(2), 2);
    }

    private static void partsOfAWholeForm() {
        due.promise("19: 1 if it is whole");
        Packstack x = Samples.packed(1, 1, 0x123456789ABCDEFL, 0x987L, 0x1L, 0x89L);
        due.is("parts(0), 15 letters", x.parts(0), 1);
        due.is("parts(1), 3 letters", x.parts(1), 1);
        due.is("parts(2), 1 letter", x.parts(2), 1);
        due.is("parts(3), a copy that would cost more", x.parts(3), 1);
        Packstack y = Samples.packed(1, 1, 0x123456789ABCDEFL, 0x123456789ABCDEFL);
        due.is("base(1)", y.base(1), 0);
        due.is("parts(1), a copy of 15 letters", y.parts(1), 1);
    }

    private static void noDependents() {
        due.promise("20: no dependents");
        Packstack x = Samples.packed(8, 1, FIVE, FIVE, FIVE, 0x6L);
        due.is("dependents(0), two against it", x.dependents(0), 2);
        due.is("dependents(1), another against the same base", x.dependents(1), 0);
        due.is("dependents(2)", x.dependents(2), 0);
        due.is("dependents(3)", x.dependents(3), 0);
    }

    private static void dependentsOfAChain() {
        due.promise("20: the whole chain of bases");
        Packstack x = Samples.longestChain();
        for (int object = 0; object <= 6; object++) {
            due.is("dependents(" + object + ")", x.dependents(object), 6 - object);
        }
        x.damage(3);
        x.delete(6);
        due.is("dependents(0) with damaged and deleted ones", x.dependents(0), 6);
        due.is("dependents(3) damaged", x.dependents(3), 3);
        due.is("dependents(6) deleted", x.dependents(6), 0);
    }

    private static void mostDependents() {
        due.promise("20: all other objects depend on one");
        // Ever more in between: the reused deltas' base is far beyond the window in the end.
        Packstack x = new Packstack();
        x.store(0, FIVE);
        for (int name = 90; name >= 50; name -= 10) {
            for (int i = 0; i < 8 && x.objects() < 40; i++) {
                x.store(name, FIVE);
            }
            x.pack(8, 1, true);
        }
        due.is("forms()", x.forms(), 40);
        due.is("cost()", x.cost(), 5 + 39 * 3);
        due.is("reused()", x.reused(), 32);
        due.is("dependents(0)", x.dependents(0), 39);
        due.is("dependents(1)", x.dependents(1), 0);
        due.is("dependents(39)", x.dependents(39), 0);
        due.is("damage(0)", x.damage(0), 40);
        due.is("dependents(0) damaged", x.dependents(0), 39);
    }

    private static void withoutAForm() {
        due.promise("16 to 20: an object without a form");
        Packstack x = Samples.stored(FIVE, FIVE);
        asksWithoutAForm(x, 0);
        x.pack(8, 6, false);
        x.store(5, FIVE);
        asksWithoutAForm(x, 2);
        x.delete(0);
        due.is("depth(0) before the next pack", x.depth(0), 0);
        x.pack(8, 6, true);
        asksWithoutAForm(x, 0);
        due.is("depth(1)", x.depth(1), 0);
        due.is("depth(2)", x.depth(2), 1);
    }

    private static void asksWithoutAForm(Packstack x, int object) {
        due.badState("costOf(" + object + ")", () -> x.costOf(object));
        due.badState("base(" + object + ")", () -> x.base(object));
        due.badState("depth(" + object + ")", () -> x.depth(object));
        due.badState("parts(" + object + ")", () -> x.parts(object));
        due.badState("dependents(" + object + ")", () -> x.dependents(object));
    }
}
