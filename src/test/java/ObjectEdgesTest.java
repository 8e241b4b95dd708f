/** The edges that the document names for objects and contents, a test for each sentence: promises 1 to 8. */
public final class ObjectEdgesTest {
    private static final Due due = new Due();
    private static final long LONGEST = 0xFFFFFFFFFFFFFFFL;

    public static void main(String[] args) {
        nothingAtFirst();
        usedFor512Calls();
        numberedFrom0();
        atMost40();
        deletedOnesCountAsStored();
        names();
        severalOfOneName();
        leastAndGreatestContent();
        lengths();
        letters();
        noLetterIs0();
        noContentOf16Letters();
        noNegativeContent();
        firstListedException();
        liveUntilDeleted();
        deletedTwice();
        lastOneDeleted();
        looseWhenStored();
        notLooseWhenDeleted();
        notLooseWhenLost();
        looseWithADamagedForm();
        readIfLiveAndLoose();
        readIfLiveAndInThePack();
        readThroughTheLongestChain();
        noLongerReadOnceLost();
        due.close("ObjectEdgesTest");
    }

    private static void nothingAtFirst() {
        due.promise("1: no objects, an empty pack");
        Packstack x = new Packstack();
        due.is("objects()", x.objects(), 0);
        due.is("forms()", x.forms(), 0);
        due.is("cost()", x.cost(), 0);
        due.badPlace("isLive(0)", () -> x.isLive(0));
        due.badPlace("indexAt(0)", () -> x.indexAt(0));
        for (int b = 0; b < 16; b++) {
            due.is("fanOut(" + b + ")", x.fanOut(b), 0);
        }
        Packstack other = new Packstack();
        x.store(5, 1L);
        x.pack(1, 1, false);
        due.is("objects() of another one", other.objects(), 0);
        due.is("forms() of another one", other.forms(), 0);
    }

    private static void usedFor512Calls() {
        due.promise("an object is used for at most 512 calls");
        Packstack x = Samples.alike(40);
        for (int call = 41; call < 512; call++) {
            due.is("pack(8, 6, " + (call % 2 == 0) + ") as call " + call, x.pack(8, 6, call % 2 == 0), 126);
        }
        due.is("depth(39) as call 512", x.depth(39), 6);
    }

    private static void numberedFrom0() {
        due.promise("2: objects are numbered from 0");
        Packstack x = new Packstack();
        due.is("store(5, 1), the first", x.store(5, 1L), 0);
        due.is("store(5, 1), the second", x.store(5, 1L), 1);
        due.badArgument("store(100, 1)", () -> x.store(100, 1L));
        due.is("store(5, 1) after a refused one", x.store(5, 1L), 2);
    }

    private static void atMost40() {
        due.promise("2: at most 40 are stored");
        Packstack x = Samples.alike(39);
        due.badPlace("read(39) with 39 stored", () -> x.read(39));
        due.is("store(5, 2) as the 40th", x.store(5, 2L), 39);
        due.is("read(39)", x.read(39), 2L);
        due.badState("store(5, 3) as the 41st", () -> x.store(5, 3L));
        due.badState("store(0, 1) as the 41st", () -> x.store(0, 1L));
        due.badState("store(99, 15 times 15) as the 41st", () -> x.store(99, LONGEST));
        due.is("objects()", x.objects(), 40);
        due.badPlace("isLive(40)", () -> x.isLive(40));
        x.pack(8, 6, false);
        due.badState("store(5, 3) after a pack", () -> x.store(5, 3L));
        due.is("forms()", x.forms(), 40);
    }

    private static void deletedOnesCountAsStored() {
        due.promise("4: deleted objects have been stored");
        Packstack x = Samples.alike(40);
        for (int object = 0; object < 40; object++) {
            due.is("delete(" + object + ")", x.delete(object), 39 - object);
            due.is("objects()", x.objects(), 40);
        }
        due.badState("store(5, 1) with all deleted", () -> x.store(5, 1L));
        due.is("pack(8, 6, false)", x.pack(8, 6, false), 0);
        due.badState("store(5, 1) with all gone", () -> x.store(5, 1L));
        due.is("isLive(39)", x.isLive(39), false);
        due.is("objects()", x.objects(), 40);
    }

    private static void names() {
        due.promise("2: a name is 0 to 99");
        Packstack x = new Packstack();
        due.badArgument("store(-1, 1)", () -> x.store(-1, 1L));
        due.badArgument("store(100, 1)", () -> x.store(100, 1L));
        due.badArgument("store(least, 1)", () -> x.store(Integer.MIN_VALUE, 1L));
        due.badArgument("store(greatest, 1)", () -> x.store(Integer.MAX_VALUE, 1L));
        due.is("store(99, five)", x.store(99, Samples.FIVE), 0);
        due.is("store(0, five)", x.store(0, Samples.FIVE), 1);
        x.pack(8, 6, false);
        due.is("base(0), the name 99 after the name 0", x.base(0), 1);
    }

    private static void severalOfOneName() {
        due.promise("2: several objects can have the same name");
        Packstack x = new Packstack();
        for (int number = 0; number < 40; number++) {
            due.is("store(0, " + (number % 15 + 1) + ")", x.store(0, number % 15 + 1), number);
        }
        due.is("pack(8, 0, false)", x.pack(8, 0, false), 40);
        due.is("read(39)", x.read(39), 39 % 15 + 1);
    }

    private static void leastAndGreatestContent() {
        due.promise("2: the least and the greatest content");
        Packstack x = new Packstack();
        due.badArgument("store(5, 0)", () -> x.store(5, 0L));
        due.is("store(5, 1)", x.store(5, 1L), 0);
        due.is("store(5, 15 times 15)", x.store(5, LONGEST), 1);
        due.badArgument("store(5, 15 times 15, plus 1)", () -> x.store(5, LONGEST + 1));
        due.is("read(0)", x.read(0), 1L);
        due.is("read(1)", x.read(1), LONGEST);
    }

    private static void lengths() {
        due.promise("2: a content has 1 to 15 letters");
        Packstack x = new Packstack();
        long ones = 0L;
        long fifteens = 0L;
        for (int count = 1; count <= 15; count++) {
            ones = ones * 16 + 1;
            fifteens = fifteens * 16 + 15;
            x.store(count, ones);
            x.store(count, fifteens);
        }
        x.pack(1, 0, false);
        x.prune();
        for (int object = 29; object >= 0; object--) {
            due.is("costOf(" + object + ")", x.costOf(object), object / 2 + 1);
            long content = object % 2 == 0 ? ones : fifteens;
            due.is("read(" + object + ")", x.read(object), content);
            ones /= object % 2 == 0 ? 16 : 1;
            fifteens /= object % 2 == 0 ? 1 : 16;
        }
    }

    private static void letters() {
        due.promise("2: a letter is 1 to 15");
        Packstack x = new Packstack();
        for (int letter = 1; letter <= 15; letter++) {
            x.store(5, letter);
            x.store(5, 16L * letter + 16 - letter);
            due.is("read(" + (2 * letter - 2) + ")", x.read(2 * letter - 2), letter);
            due.is("read(" + (2 * letter - 1) + ")", x.read(2 * letter - 1), 16L * letter + 16 - letter);
        }
        due.badArgument("store(5, 16): a 1 and a 0", () -> x.store(5, 16L));
    }

    private static void noLetterIs0() {
        due.promise("2 and 22: a 0 is no letter, at any place");
        Packstack x = new Packstack();
        for (int shift = 0; shift < 56; shift += 4) {
            for (long letters : new long[] {0x111111111111111L, LONGEST}) {
                long content = letters & ~(15L << shift);
                due.badArgument("store(5, " + content + ")", () -> x.store(5, content));
                due.badArgument("hash(" + content + ")", () -> x.hash(content));
            }
        }
        due.badArgument("store(5, a 1 and 14 times 0)", () -> x.store(5, 1L << 56));
        due.is("objects()", x.objects(), 0);
        // Without its first letter it is the content of the other fourteen.
        x.store(5, LONGEST & ~(15L << 56));
        due.is("pack(1, 0, false)", x.pack(1, 0, false), 14);
    }

    private static void noContentOf16Letters() {
        due.promise("2 and 22: 16 letters are no content");
        Packstack x = new Packstack();
        long[] numbers = {0x1111111111111111L, 0x7FFFFFFFFFFFFFFFL, 0x1000000000000000L, 0x7111111111111111L};
        for (long number : numbers) {
            due.badArgument("store(5, " + number + ")", () -> x.store(5, number));
            due.badArgument("hash(" + number + ")", () -> x.hash(number));
        }
        due.is("objects()", x.objects(), 0);
    }

    private static void noNegativeContent() {
        due.promise("2 and 22: a number below 0 is no content, nor are 16 letters that wrap around to it");
        Packstack x = new Packstack();
        long[] numbers = {-1L, 0x8111111111111111L, 0xFFFFFFFFFFFFFFF1L, Long.MIN_VALUE, Long.MIN_VALUE + 1, -LONGEST};
        for (long number : numbers) {
            due.badArgument("store(5, " + number + ")", () -> x.store(5, number));
            due.badArgument("hash(" + number + ")", () -> x.hash(number));
        }
        due.is("objects()", x.objects(), 0);
    }

    private static void firstListedException() {
        due.promise("2: if several exceptions apply, the one that is listed first");
        Packstack x = Samples.alike(40);
        due.badArgument("store(100, 1), full", () -> x.store(100, 1L));
        due.badArgument("store(-1, 0), full", () -> x.store(-1, 0L));
        due.badArgument("store(5, 0), full", () -> x.store(5, 0L));
        due.badState("store(5, 1), full", () -> x.store(5, 1L));
    }

    private static void liveUntilDeleted() {
        due.promise("5: an object is live until it is deleted");
        Packstack x = Samples.chain();
        x.prune();
        x.damage(0);
        x.pack(8, 6, true);
        due.is("forms()", x.forms(), 0);
        due.is("isLive(0), which is lost", x.isLive(0), true);
        due.is("isLive(2), which is lost", x.isLive(2), true);
        due.is("delete(2), which is lost", x.delete(2), 2);
        due.is("isLive(2)", x.isLive(2), false);
        due.is("isLive(1)", x.isLive(1), true);
    }

    private static void deletedTwice() {
        due.promise("3: a deleted object is not deleted again");
        Packstack x = Samples.stored(1L, 2L);
        due.is("delete(0)", x.delete(0), 1);
        due.badState("delete(0)", () -> x.delete(0));
        x.pack(1, 1, false);
        due.badState("delete(0) after a pack", () -> x.delete(0));
        due.badPlace("delete(2)", () -> x.delete(2));
        due.is("delete(1)", x.delete(1), 0);
    }

    private static void lastOneDeleted() {
        due.promise("3: no live objects are left");
        Packstack x = Samples.packed(1, 1, 1L);
        due.is("delete(0)", x.delete(0), 0);
        due.is("prune()", x.prune(), 0);
        due.is("forms() before the next pack", x.forms(), 1);
        due.is("pack(1, 1, true)", x.pack(1, 1, true), 0);
        due.is("forms()", x.forms(), 0);
        due.is("store(5, 1)", x.store(5, 1L), 1);
        due.is("delete(1)", x.delete(1), 0);
    }

    private static void looseWhenStored() {
        due.promise("6: an object is loose when it is stored, until it is pruned");
        Packstack x = Samples.packed(8, 6, Samples.FIVE);
        due.is("isLoose(0) in the pack", x.isLoose(0), true);
        x.prune();
        due.is("isLoose(0) pruned", x.isLoose(0), false);
        x.store(5, Samples.FIVE);
        due.is("isLoose(1) stored after", x.isLoose(1), true);
        x.pack(8, 6, false);
        due.is("isLoose(0), a pack makes none loose", x.isLoose(0), false);
        due.is("isLoose(1)", x.isLoose(1), true);
    }

    private static void notLooseWhenDeleted() {
        due.promise("6: deleted objects are not loose, but keep their form until the next pack");
        Packstack x = Samples.chain();
        x.delete(1);
        due.is("isLoose(1)", x.isLoose(1), false);
        due.is("depth(1)", x.depth(1), 1);
        due.is("forms()", x.forms(), 3);
        due.is("prune()", x.prune(), 2);
        due.is("read(2) through the deleted one", x.read(2), Samples.FIVE);
        x.pack(8, 6, false);
        due.badState("depth(1) after the next pack", () -> x.depth(1));
        due.is("forms()", x.forms(), 2);
        due.is("read(2)", x.read(2), Samples.FIVE);
    }

    private static void notLooseWhenLost() {
        due.promise("6: an object that was pruned is not loose again, even if it is lost");
        Packstack x = Samples.chain();
        x.prune();
        x.damage(1);
        for (int object = 0; object < 3; object++) {
            due.is("isLoose(" + object + ")", x.isLoose(object), false);
            due.is("isLive(" + object + ")", x.isLive(object), true);
            due.is("canRead(" + object + ")", x.canRead(object), object == 0);
        }
        x.pack(8, 6, true);
        due.is("isLoose(0), in the next pack", x.isLoose(0), false);
        due.is("isLoose(1), without a form", x.isLoose(1), false);
        due.is("isLoose(2), without a form", x.isLoose(2), false);
    }

    private static void looseWithADamagedForm() {
        due.promise("6: damage is done to the form alone");
        Packstack x = Samples.chain();
        x.damage(0);
        x.prune();
        for (int object = 0; object < 3; object++) {
            due.is("isLoose(" + object + ")", x.isLoose(object), true);
        }
        x.pack(8, 6, true);
        due.is("isLoose(0), with a sound form", x.isLoose(0), true);
        due.is("prune()", x.prune(), 3);
        due.is("isLoose(0), pruned", x.isLoose(0), false);
    }

    private static void readIfLiveAndLoose() {
        due.promise("7 and 8: live and loose, without a sound form");
        Packstack x = Samples.stored(7L);
        due.is("canRead(0) without a form", x.canRead(0), true);
        due.is("read(0) without a form", x.read(0), 7L);
        x.pack(1, 1, false);
        x.damage(0);
        due.is("canRead(0) with a damaged form", x.canRead(0), true);
        due.is("read(0) with a damaged form", x.read(0), 7L);
        x.delete(0);
        due.is("canRead(0) deleted", x.canRead(0), false);
        due.badState("read(0) deleted", () -> x.read(0));
    }

    private static void readIfLiveAndInThePack() {
        due.promise("7 and 8: live and not loose");
        Packstack x = Samples.packed(1, 1, 7L, 8L);
        x.prune();
        due.is("canRead(0) with a sound form", x.canRead(0), true);
        due.is("read(0) with a sound form", x.read(0), 7L);
        x.damage(0);
        due.is("canRead(0) with a damaged form", x.canRead(0), false);
        due.badState("read(0) with a damaged form", () -> x.read(0));
        x.delete(1);
        due.is("canRead(1) deleted with a sound form", x.canRead(1), false);
        due.badState("read(1) deleted with a sound form", () -> x.read(1));
    }

    private static void readThroughTheLongestChain() {
        due.promise("7 and 8: read, if the base can be read from the pack");
        for (int broken = 0; broken <= 6; broken++) {
            Packstack x = Samples.longestChain();
            x.prune();
            due.is("read(6)", x.read(6), Samples.FIVE);
            x.damage(broken);
            for (int object = 0; object <= 6; object++) {
                due.is("canRead(" + object + ") with " + broken + " damaged", x.canRead(object), object < broken);
            }
        }
        // That the base is loose does not help: it has to be read from the pack.
        Packstack y = Samples.packed(8, 6, Samples.FIVE);
        y.store(5, Samples.FIVE);
        y.pack(8, 6, false);
        y.damage(0);
        due.is("prune() with the base damaged", y.prune(), 0);
        due.is("canRead(0) loose", y.canRead(0), true);
        due.is("canRead(1) loose", y.canRead(1), true);
    }

    private static void noLongerReadOnceLost() {
        due.promise("7 and 8: what is lost is not in a later pack");
        Packstack x = Samples.packed(8, 6, Samples.FIVE, Samples.FIVE);
        x.prune();
        x.damage(1);
        due.is("pack(8, 6, true)", x.pack(8, 6, true), 5);
        due.badState("read(1) after a pack", () -> x.read(1));
        due.badState("base(1)", () -> x.base(1));
        due.is("pack(8, 6, false)", x.pack(8, 6, false), 5);
        due.is("canRead(1)", x.canRead(1), false);
        due.is("canRead(0)", x.canRead(0), true);
    }
}
