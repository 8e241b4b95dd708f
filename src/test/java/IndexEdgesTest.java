/** The edges of the index, its fan-out table and its halving, a test for each: promises 22 to 26. */
public final class IndexEdgesTest {
    private static final Due due = new Due();

    /** For each number of the fan-out table a content with its least hash and one with its greatest. */
    private static final long[] ENDS = {
        0x19E1L, 0x2E8L, 0x2E9L, 0x6E4L, 0x6E5L, 0xE64L, 0xAE1L, 0x1AC1L,
        0x1AC2L, 0x3C9L, 0x3CAL, 0x7C5L, 0x7C6L, 0xBC1L, 0xBC2L, 0x1BA2L,
        0x1BA3L, 0x4AAL, 0x4ABL, 0x8A6L, 0x8A7L, 0xCA2L, 0xCA3L, 0x18FL,
        0x1C84L, 0x58BL, 0x58CL, 0x987L, 0x988L, 0x9FL, 0xD84L, 0x1D64L,
    };

    public static void main(String[] args) {
        hashesOfOneLetter();
        hashWrapsAround();
        leastAndGreatestHash();
        hashOfNoContent();
        emptyIndex();
        fullIndex();
        placesBesideTheIndex();
        orderedByHashes();
        equalHashesByNumbers();
        untilTheNextPack();
        fanOutOutOfRange();
        fanOutAtTheEnds();
        fanOutOfAnEmptyPack();
        lastFanOutHasAll();
        hashOutOfRange();
        lookUpInAnEmptyPack();
        lookUpAtTheEnds();
        lookUpEveryHash();
        lookUpInAnEmptyPart();
        lookUpOneObject();
        lookUpEqualHashes();
        lookUpBesideEqualHashes();
        lookUpTwoAndThree();
        due.close("IndexEdgesTest");
    }

    private static int hashOfEnd(int end) {
        return end % 2 == 0 ? end / 2 * 256 : end / 2 * 256 + 255;
    }

    /** The ends, the greatest hash first, so that the numbers fall as the places rise. */
    private static Packstack ends() {
        Packstack x = new Packstack();
        for (int end = ENDS.length - 1; end >= 0; end--) {
            x.store(5, ENDS[end]);
        }
        x.pack(8, 6, false);
        return x;
    }

    private static void find(Packstack x, int hash, int object, int looks) {
        due.is("find(" + hash + ")", x.find(hash), object);
        due.is("looks(" + hash + ")", x.looks(hash), looks);
    }

    private static void hashesOfOneLetter() {
        due.promise("22: the shortest contents");
        Packstack x = new Packstack();
        for (int letter = 1; letter <= 15; letter++) {
            due.is("hash(" + letter + ")", x.hash(letter), 7 * 33 + letter);
        }
    }

    private static void hashWrapsAround() {
        due.promise("22: the remainder by 4096 is taken");
        Packstack x = new Packstack();
        due.is("hash(0x12)", x.hash(0x12L), 232 * 33 + 2 - 4096);
        due.is("hash(0xFF)", x.hash(0xFFL), 246 * 33 + 15 - 4096);
        due.is("hash(15 times 15)", x.hash(0xFFFFFFFFFFFFFFFL), 744);
    }

    private static void leastAndGreatestHash() {
        due.promise("22: the least and the greatest hash");
        Packstack x = new Packstack();
        due.is("hash(0x19E1)", x.hash(0x19E1L), 0);
        due.is("hash(0x1D64)", x.hash(0x1D64L), 4095);
        for (int end = 0; end < ENDS.length; end++) {
            due.is("hash(" + ENDS[end] + ")", x.hash(ENDS[end]), hashOfEnd(end));
        }
    }

    private static void hashOfNoContent() {
        due.promise("22: no content");
        Packstack x = new Packstack();
        long[] numbers = {0L, -1L, 0x10L, 0x110L, 0x101L, 0x1000000000000000L, 0x1111111111111111L,
            Long.MAX_VALUE, Long.MIN_VALUE};
        for (long number : numbers) {
            due.badArgument("hash(" + number + ")", () -> x.hash(number));
        }
        due.is("hash(1)", x.hash(1L), 232);
        due.is("objects(), none is stored by that", x.objects(), 0);
    }

    private static void emptyIndex() {
        due.promise("23: an empty index");
        Packstack x = new Packstack();
        due.badPlace("indexAt(0), no objects", () -> x.indexAt(0));
        x.store(5, 1L);
        due.badPlace("indexAt(0), no pack", () -> x.indexAt(0));
        x.pack(1, 1, false);
        due.is("indexAt(0)", x.indexAt(0), 0);
        x.delete(0);
        x.pack(1, 1, false);
        due.badPlace("indexAt(0), an empty pack", () -> x.indexAt(0));
    }

    private static void fullIndex() {
        due.promise("23: an index of 40 objects");
        Packstack x = Samples.alike(40);
        x.pack(8, 6, false);
        for (int place = 0; place < 40; place++) {
            due.is("indexAt(" + place + ")", x.indexAt(place), place);
        }
        due.badPlace("indexAt(40)", () -> x.indexAt(40));
        due.badPlace("indexAt(-1)", () -> x.indexAt(-1));
    }

    private static void placesBesideTheIndex() {
        due.promise("23: no such place");
        Packstack x = Samples.packed(1, 1, 1L, 2L);
        x.store(5, 3L);
        due.is("indexAt(1), the last", x.indexAt(1), 1);
        due.badPlace("indexAt(2), a number but no place", () -> x.indexAt(2));
        due.badPlace("indexAt(-1)", () -> x.indexAt(-1));
        due.badPlace("indexAt(least)", () -> x.indexAt(Integer.MIN_VALUE));
        due.badPlace("indexAt(greatest)", () -> x.indexAt(Integer.MAX_VALUE));
    }

    private static void orderedByHashes() {
        due.promise("23: ordered by rising hashes, from 0 to 4095");
        Packstack x = ends();
        for (int place = 0; place < 32; place++) {
            due.is("indexAt(" + place + ")", x.indexAt(place), 31 - place);
        }
    }

    private static void equalHashesByNumbers() {
        due.promise("23: those with the same hash by rising numbers");
        // In the pack's order 2 comes first, then 1, then 0.
        Packstack x = new Packstack();
        x.store(3, 0x12L);
        x.store(2, 0x12L);
        x.store(1, 0x12L);
        x.pack(1, 1, false);
        for (int place = 0; place < 3; place++) {
            due.is("indexAt(" + place + ")", x.indexAt(place), place);
        }
        x.delete(1);
        x.pack(1, 1, false);
        due.is("indexAt(0)", x.indexAt(0), 0);
        due.is("indexAt(1)", x.indexAt(1), 2);
    }

    private static void untilTheNextPack() {
        due.promise("23 to 26: all objects with a form, until the next pack");
        Packstack x = Samples.packed(1, 1, 1L, 2L);
        x.delete(0);
        x.damage(1);
        x.store(5, 3L);
        due.is("indexAt(0) deleted", x.indexAt(0), 0);
        due.is("fanOut(0)", x.fanOut(0), 2);
        find(x, 232, 0, 2);
        find(x, 233, 1, 1);
        find(x, 234, Packstack.NONE, 1);
        x.pack(1, 1, false);
        due.is("indexAt(0)", x.indexAt(0), 1);
        find(x, 232, Packstack.NONE, 2);
        find(x, 234, 2, 1);
    }

    private static void fanOutOutOfRange() {
        due.promise("24: b is 0 to 15");
        Packstack x = ends();
        for (int b : new int[] {-1, 16, -16, 256, Integer.MIN_VALUE, Integer.MAX_VALUE, Integer.MAX_VALUE / 256}) {
            due.badArgument("fanOut(" + b + ")", () -> x.fanOut(b));
        }
        due.is("fanOut(0)", x.fanOut(0), 2);
        due.is("fanOut(15)", x.fanOut(15), 32);
    }

    private static void fanOutAtTheEnds() {
        due.promise("24: how many have a hash below 256 * (b + 1)");
        Packstack x = ends();
        for (int b = 0; b < 16; b++) {
            due.is("fanOut(" + b + ")", x.fanOut(b), 2 * (b + 1));
        }
        Packstack y = Samples.packed(1, 1, 0x2E9L);
        due.is("fanOut(0) without the hash 256", y.fanOut(0), 0);
        due.is("fanOut(1) with the hash 256", y.fanOut(1), 1);
    }

    private static void fanOutOfAnEmptyPack() {
        due.promise("24: an empty pack");
        Packstack x = Samples.packed(1, 1, 1L);
        x.delete(0);
        x.pack(1, 1, false);
        for (int b = 0; b < 16; b++) {
            due.is("fanOut(" + b + ")", x.fanOut(b), 0);
        }
    }

    private static void lastFanOutHasAll() {
        due.promise("24: the last number has all");
        Packstack x = new Packstack();
        for (int i = 0; i < 40; i++) {
            x.store(5, 0x1D64L);
        }
        due.is("fanOut(15) without a pack", x.fanOut(15), 0);
        x.pack(8, 6, false);
        due.is("fanOut(14)", x.fanOut(14), 0);
        due.is("fanOut(15)", x.fanOut(15), 40);
    }

    private static void hashOutOfRange() {
        due.promise("25 and 26: a hash is 0 to 4095");
        Packstack empty = new Packstack();
        Packstack full = ends();
        for (int hash : new int[] {-1, 4096, -256, 8191, Integer.MIN_VALUE, Integer.MAX_VALUE}) {
            due.badArgument("find(" + hash + "), empty", () -> empty.find(hash));
            due.badArgument("looks(" + hash + "), empty", () -> empty.looks(hash));
            due.badArgument("find(" + hash + ")", () -> full.find(hash));
            due.badArgument("looks(" + hash + ")", () -> full.looks(hash));
        }
    }

    private static void lookUpInAnEmptyPack() {
        due.promise("25 and 26: nothing is found in an empty pack, at no look");
        Packstack x = Samples.stored(1L);
        for (int hash : new int[] {0, 232, 255, 256, 3840, 4095}) {
            find(x, hash, Packstack.NONE, 0);
        }
        x.delete(0);
        x.pack(1, 1, false);
        find(x, 232, Packstack.NONE, 0);
    }

    private static void lookUpAtTheEnds() {
        due.promise("25 and 26: the least and the greatest hash of each number of the fan-out table");
        Packstack x = ends();
        for (int b = 0; b < 16; b++) {
            // Of the two places the second is looked at first.
            find(x, 256 * b, 31 - 2 * b, 2);
            find(x, 256 * b + 1, Packstack.NONE, 2);
            find(x, 256 * b + 254, Packstack.NONE, 2);
            find(x, 256 * b + 255, 30 - 2 * b, 1);
        }
    }

    private static void lookUpEveryHash() {
        due.promise("25 and 26: every hash there is");
        for (int b = 0; b < 16; b++) {
            Packstack found = ends();
            Packstack looked = ends();
            for (int hash = 256 * b + 1; hash < 256 * b + 255; hash++) {
                due.is("find(" + hash + ")", found.find(hash), Packstack.NONE);
                due.is("looks(" + hash + ")", looked.looks(hash), 2);
            }
        }
    }

    private static void lookUpInAnEmptyPart() {
        due.promise("26: no look if low is not below high");
        // Their hashes: 255 and 512.
        Packstack x = Samples.packed(1, 1, 0x2E8L, 0x6E5L);
        find(x, 255, 0, 1);
        find(x, 254, Packstack.NONE, 1);
        find(x, 256, Packstack.NONE, 0);
        find(x, 511, Packstack.NONE, 0);
        find(x, 512, 1, 1);
        find(x, 767, Packstack.NONE, 1);
        find(x, 768, Packstack.NONE, 0);
        find(x, 4095, Packstack.NONE, 0);
    }

    private static void lookUpOneObject() {
        due.promise("25 and 26: a pack of one object");
        Packstack least = Samples.packed(1, 1, 0x19E1L);
        find(least, 0, 0, 1);
        find(least, 1, Packstack.NONE, 1);
        find(least, 255, Packstack.NONE, 1);
        find(least, 256, Packstack.NONE, 0);
        find(least, 4095, Packstack.NONE, 0);
        Packstack greatest = Samples.packed(1, 1, 0x1D64L);
        find(greatest, 4095, 0, 1);
        find(greatest, 4094, Packstack.NONE, 1);
        find(greatest, 3840, Packstack.NONE, 1);
        find(greatest, 3839, Packstack.NONE, 0);
        find(greatest, 0, Packstack.NONE, 0);
    }

    private static void lookUpEqualHashes() {
        due.promise("25: of several with the hash the one whose place is looked at first");
        for (int count = 1; count <= 40; count++) {
            Packstack x = new Packstack();
            for (int i = 0; i < count; i++) {
                x.store(5, 1L);
            }
            x.pack(1, 1, false);
            find(x, 232, count / 2, 1);
        }
    }

    private static void lookUpBesideEqualHashes() {
        due.promise("26: as many looks as halving 40 places takes");
        Packstack x = new Packstack();
        for (int i = 0; i < 40; i++) {
            x.store(5, 1L);
        }
        x.pack(1, 1, false);
        // The places 20, 10, 5, 2, 1, 0, and 20, 30, 35, 38, 39.
        find(x, 231, Packstack.NONE, 6);
        find(x, 233, Packstack.NONE, 5);
        find(x, 256, Packstack.NONE, 0);
    }

    private static void lookUpTwoAndThree() {
        due.promise("26: the place (low + high) / 2, rounded down");
        Packstack two = Samples.packed(1, 1, 1L, 3L);
        find(two, 234, 1, 1);
        find(two, 232, 0, 2);
        find(two, 231, Packstack.NONE, 2);
        find(two, 233, Packstack.NONE, 2);
        find(two, 235, Packstack.NONE, 1);
        Packstack three = Samples.packed(1, 1, 1L, 3L, 5L);
        find(three, 234, 1, 1);
        find(three, 232, 0, 2);
        find(three, 236, 2, 2);
        find(three, 231, Packstack.NONE, 2);
        find(three, 235, Packstack.NONE, 2);
        find(three, 237, Packstack.NONE, 2);
    }
}
