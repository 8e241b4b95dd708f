import java.util.Set;
import java.util.function.Consumer;
import java.util.function.Supplier;

/** In each kind of state each call that the document refuses throws what it says, and changes nothing. */
public final class RefusedTest {
    private static final Due due = new Due();
    private static final long FIVE = Samples.FIVE;
    private static final int LEAST = Integer.MIN_VALUE;
    private static final int GREATEST = Integer.MAX_VALUE;

    /** A way to make an object again and again, and what is known of it. */
    private record State(String title, Supplier<Packstack> maker, int stored, int forms,
        Set<Integer> deleted, Set<Integer> unreadable, Set<Integer> formless, Set<Integer> damaged) {
    }

    public static void main(String[] args) {
        refuse(new State("new", Packstack::new, 0, 0, Set.of(), Set.of(), Set.of(), Set.of()));
        refuse(new State("stored", () -> Samples.alike(3), 3, 0, Set.of(), Set.of(), Set.of(0, 1, 2), Set.of()));
        refuse(new State("packed", Samples::chain, 3, 3, Set.of(), Set.of(), Set.of(), Set.of()));
        refuse(new State("worn", RefusedTest::worn, 5, 4, Set.of(3), Set.of(1, 2, 3), Set.of(4), Set.of(1)));
        refuse(new State("all deleted", RefusedTest::allDeleted, 2, 2, Set.of(0, 1), Set.of(0, 1), Set.of(), Set.of()));
        refuse(new State("all gone", RefusedTest::allGone, 2, 0, Set.of(0, 1), Set.of(0, 1), Set.of(0, 1), Set.of()));
        refuse(new State("full", RefusedTest::full, 40, 39, Set.of(0), Set.of(0, 2), Set.of(39), Set.of(2)));
        due.close("RefusedTest");
    }

    /** 0 is sound, 1 damaged, 2 a delta against 1, all pruned; 3 deleted; 4 not in the pack. */
    private static Packstack worn() {
        Packstack x = Samples.packed(8, 6, FIVE, FIVE, FIVE, 0x6L);
        x.prune();
        x.damage(1);
        x.delete(3);
        x.store(5, FIVE);
        return x;
    }

    private static Packstack allDeleted() {
        Packstack x = Samples.packed(8, 6, FIVE, FIVE);
        x.delete(0);
        x.delete(1);
        return x;
    }

    private static Packstack allGone() {
        Packstack x = allDeleted();
        x.pack(8, 6, false);
        return x;
    }

    /** 0 deleted, 2 damaged and pruned, with nothing against it; 39 not in the pack. */
    private static Packstack full() {
        Packstack x = new Packstack();
        for (int i = 0; i < 39; i++) {
            x.store(i, i == 2 ? 0x6L : FIVE);
        }
        x.pack(8, 6, false);
        x.prune();
        x.damage(2);
        x.delete(0);
        x.store(5, FIVE);
        return x;
    }

    private static void refuse(State state) {
        due.promise("refused, " + state.title());
        refuseStores(state);
        refusePacks(state);
        for (int object : new int[] {-1, state.stored(), state.stored() + 1, 40, 41, LEAST, GREATEST}) {
            refuseNoSuchObject(state, object);
        }
        refuseByState(state);
        refuseNoSuchPlaceOrHash(state);
    }

    /** Made on an object of its own, which must then answer as one on which it was not made. */
    private static void refused(State state, String call, Class<?> want, Consumer<Packstack> made) {
        Packstack x = state.maker().get();
        Due.Call run = () -> made.accept(x);
        if (want == IndexOutOfBoundsException.class) {
            due.badPlace(call, run);
        } else if (want == IllegalArgumentException.class) {
            due.badArgument(call, run);
        } else {
            due.badState(call, run);
        }
        Packstack twin = state.maker().get();
        due.same("all that is asked after " + call, Shot.of(x), Shot.of(twin));
        due.same("what comes later after " + call, Shot.later(x), Shot.later(twin));
    }

    private static void badPlace(State state, String call, Consumer<Packstack> made) {
        refused(state, call, IndexOutOfBoundsException.class, made);
    }

    private static void badArgument(State state, String call, Consumer<Packstack> made) {
        refused(state, call, IllegalArgumentException.class, made);
    }

    private static void badState(State state, String call, Consumer<Packstack> made) {
        refused(state, call, IllegalStateException.class, made);
    }

    private static void refuseStores(State state) {
        for (int name : new int[] {-1, 100, LEAST, GREATEST}) {
            badArgument(state, "store(" + name + ", 1)", x -> x.store(name, 1L));
            badArgument(state, "store(" + name + ", 0)", x -> x.store(name, 0L));
        }
        for (long content : new long[] {0L, -1L, 0x10L, 0x101L, 1L << 60, Long.MIN_VALUE, Long.MAX_VALUE}) {
            badArgument(state, "store(5, " + content + ")", x -> x.store(5, content));
            badArgument(state, "hash(" + content + ")", x -> x.hash(content));
        }
        if (state.stored() == 40) {
            badState(state, "store(5, 1)", x -> x.store(5, 1L));
        }
    }

    private static void refusePacks(State state) {
        for (int window : new int[] {0, 9, -1, LEAST, GREATEST}) {
            badArgument(state, "pack(" + window + ", 0, false)", x -> x.pack(window, 0, false));
            badArgument(state, "pack(" + window + ", 7, true)", x -> x.pack(window, 7, true));
        }
        for (int bound : new int[] {-1, 7, LEAST, GREATEST}) {
            badArgument(state, "pack(1, " + bound + ", false)", x -> x.pack(1, bound, false));
            badArgument(state, "pack(8, " + bound + ", true)", x -> x.pack(8, bound, true));
        }
    }

    private static void refuseNoSuchObject(State state, int object) {
        String one = "(" + object + ")";
        badPlace(state, "delete" + one, x -> x.delete(object));
        badPlace(state, "isLive" + one, x -> x.isLive(object));
        badPlace(state, "isLoose" + one, x -> x.isLoose(object));
        badPlace(state, "canRead" + one, x -> x.canRead(object));
        badPlace(state, "read" + one, x -> x.read(object));
        badPlace(state, "damage" + one, x -> x.damage(object));
        badPlace(state, "costOf" + one, x -> x.costOf(object));
        badPlace(state, "base" + one, x -> x.base(object));
        badPlace(state, "depth" + one, x -> x.depth(object));
        badPlace(state, "parts" + one, x -> x.parts(object));
        badPlace(state, "dependents" + one, x -> x.dependents(object));
        badPlace(state, "deltaCost(0, " + object + ")", x -> x.deltaCost(0, object));
        badPlace(state, "deltaCost(" + object + ", 0)", x -> x.deltaCost(object, 0));
        badPlace(state, "deltaCost(" + object + ", -1)", x -> x.deltaCost(object, -1));
    }

    private static void refuseByState(State state) {
        for (int object : state.deleted()) {
            badState(state, "delete(" + object + ")", x -> x.delete(object));
        }
        for (int object : state.unreadable()) {
            badState(state, "read(" + object + ")", x -> x.read(object));
        }
        for (int object : state.damaged()) {
            badState(state, "damage(" + object + ")", x -> x.damage(object));
        }
        for (int object : state.formless()) {
            String one = "(" + object + ")";
            badState(state, "damage" + one, x -> x.damage(object));
            badState(state, "costOf" + one, x -> x.costOf(object));
            badState(state, "base" + one, x -> x.base(object));
            badState(state, "depth" + one, x -> x.depth(object));
            badState(state, "parts" + one, x -> x.parts(object));
            badState(state, "dependents" + one, x -> x.dependents(object));
        }
    }

    private static void refuseNoSuchPlaceOrHash(State state) {
        for (int place : new int[] {-1, state.forms(), state.forms() + 1, 40, LEAST, GREATEST}) {
            badPlace(state, "indexAt(" + place + ")", x -> x.indexAt(place));
        }
        for (int b : new int[] {-1, 16, LEAST, GREATEST}) {
            badArgument(state, "fanOut(" + b + ")", x -> x.fanOut(b));
        }
        for (int hash : new int[] {-1, 4096, LEAST, GREATEST}) {
            badArgument(state, "find(" + hash + ")", x -> x.find(hash));
            badArgument(state, "looks(" + hash + ")", x -> x.looks(hash));
        }
    }
}
