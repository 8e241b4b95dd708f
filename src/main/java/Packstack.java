import java.util.ArrayList;

/**
 * An object store with a pack: objects are kept whole or as deltas against
 * similar objects. ../shared/DOC.md promises what each call answers.
 */
public final class Packstack {
    public static final int NONE = -1;

    private static final int MOST_OBJECTS = 40;
    private static final int LAST_NAME = 99;
    private static final int LETTER_BITS = 4;
    private static final int LETTER_MASK = 15;
    private static final long CONTENTS_END = 1L << 60;

    private static final int SHORTEST_COPY = 2;
    private static final int COPY_COST = 2;
    private static final int DELTA_COST = 1;

    private static final int WIDEST_WINDOW = 8;
    private static final int GREATEST_BOUND = 6;

    private static final int HASH_START = 7;
    private static final int HASH_FACTOR = 33;
    private static final int HASHES = 4096;
    private static final int FAN_OUTS = 16;
    private static final int HASHES_PER_FAN_OUT = 256;

    /** All objects that have been stored, each at its number. */
    private final ArrayList<Item> items;
    /** The objects of the pack, in the order in which their forms are found. */
    private final ArrayList<Item> order;
    /** The objects of the pack, in the order of the index. */
    private final ArrayList<Item> index;
    private int comparedDeltas;
    private int reusedDeltas;

    public Packstack() {
        items = new ArrayList<Item>();
        order = new ArrayList<Item>();
        index = new ArrayList<Item>();
        comparedDeltas = 0;
        reusedDeltas = 0;
    }

    // ---- objects

    public int store(int name, long content) throws IllegalArgumentException, IllegalStateException {
        if (name < 0 || name > LAST_NAME) {
            throw new IllegalArgumentException("the name is out of range");
        }
        if (!isContent(content)) {
            throw new IllegalArgumentException("no content");
        }
        int number = items.size();
        if (number >= MOST_OBJECTS) {
            throw new IllegalStateException("no more objects can be stored");
        }
        items.add(new Item(number, name, content));
        return number;
    }

    public int delete(int object) throws IndexOutOfBoundsException, IllegalStateException {
        Item item = itemOf(object);
        if (!item.live) {
            throw new IllegalStateException("the object is not live");
        }
        item.live = false;
        item.loose = false;
        return countLive();
    }

    public int objects() {
        return items.size();
    }

    public boolean isLive(int object) throws IndexOutOfBoundsException {
        return itemOf(object).live;
    }

    public boolean isLoose(int object) throws IndexOutOfBoundsException {
        return itemOf(object).loose;
    }

    public boolean canRead(int object) throws IndexOutOfBoundsException {
        return itemOf(object).isReadable();
    }

    public long read(int object) throws IndexOutOfBoundsException, IllegalStateException {
        Item item = itemOf(object);
        if (!item.isReadable()) {
            throw new IllegalStateException("the object cannot be read");
        }
        return item.content;
    }

    // ---- packing

    public int pack(int window, int bound, boolean reuses) throws IllegalArgumentException {
        if (window < 1 || window > WIDEST_WINDOW) {
            throw new IllegalArgumentException("the window is out of range");
        }
        if (bound < 0 || bound > GREATEST_BOUND) {
            throw new IllegalArgumentException("the bound is out of range");
        }
        // What can be read is told by the old forms, so it is asked before they go.
        fillOrder();
        putFormsAside();
        comparedDeltas = 0;
        reusedDeltas = 0;
        for (int place = 0; place < order.size(); place++) {
            Item item = order.get(place);
            Form form = reuses ? reuseForm(item, bound) : null;
            item.form = form != null ? form : findForm(item, place, window, bound);
        }
        fillIndex();
        return cost();
    }

    public int prune() {
        int pruned = 0;
        for (int i = 0; i < items.size(); i++) {
            Item item = items.get(i);
            if (item.loose && item.isReadableFromPack()) {
                item.loose = false;
                pruned++;
            }
        }
        return pruned;
    }

    public int damage(int object) throws IndexOutOfBoundsException, IllegalStateException {
        Form form = formOf(object);
        if (form.damaged) {
            throw new IllegalStateException("the form is damaged already");
        }
        int before = countReadableFromPack();
        form.damaged = true;
        return before - countReadableFromPack();
    }

    public int compared() {
        return comparedDeltas;
    }

    public int reused() {
        return reusedDeltas;
    }

    // ---- the pack

    public int forms() {
        return order.size();
    }

    public int cost() {
        int sum = 0;
        for (int i = 0; i < order.size(); i++) {
            Form form = order.get(i).form;
            if (form != null) {
                sum += form.cost;
            }
        }
        return sum;
    }

    public int costOf(int object) throws IndexOutOfBoundsException, IllegalStateException {
        return formOf(object).cost;
    }

    public int base(int object) throws IndexOutOfBoundsException, IllegalStateException {
        Item base = formOf(object).base;
        return base == null ? NONE : base.number;
    }

    public int depth(int object) throws IndexOutOfBoundsException, IllegalStateException {
        return formOf(object).depth;
    }

    public int parts(int object) throws IndexOutOfBoundsException, IllegalStateException {
        return formOf(object).parts;
    }

    public int dependents(int object) throws IndexOutOfBoundsException, IllegalStateException {
        Item item = itemOf(object);
        if (item.form == null) {
            throw new IllegalStateException("the object has no form");
        }
        int count = 0;
        for (int i = 0; i < order.size(); i++) {
            if (order.get(i).dependsOn(item)) {
                count++;
            }
        }
        return count;
    }

    public int deltaCost(int object, int base) throws IndexOutOfBoundsException {
        return costAgainst(itemOf(object), itemOf(base));
    }

    // ---- the index

    public int hash(long content) throws IllegalArgumentException {
        if (!isContent(content)) {
            throw new IllegalArgumentException("no content");
        }
        return hashOf(content);
    }

    public int indexAt(int place) throws IndexOutOfBoundsException {
        if (place < 0 || place >= index.size()) {
            throw new IndexOutOfBoundsException("no such place");
        }
        return index.get(place).number;
    }

    public int fanOut(int b) throws IllegalArgumentException {
        if (b < 0 || b >= FAN_OUTS) {
            throw new IllegalArgumentException("no such number of the fan-out table");
        }
        return countHashesBelow(HASHES_PER_FAN_OUT * (b + 1));
    }

    public int find(int hash) throws IllegalArgumentException {
        Item found = lookUp(hash).found;
        return found == null ? NONE : found.number;
    }

    public int looks(int hash) throws IllegalArgumentException {
        return lookUp(hash).looks;
    }

    // ---- objects and their forms

    private Item itemOf(int object) {
        if (object < 0 || object >= items.size()) {
            throw new IndexOutOfBoundsException("no such object");
        }
        return items.get(object);
    }

    private Form formOf(int object) {
        Form form = itemOf(object).form;
        if (form == null) {
            throw new IllegalStateException("the object has no form");
        }
        return form;
    }

    private int countLive() {
        int count = 0;
        for (int i = 0; i < items.size(); i++) {
            if (items.get(i).live) {
                count++;
            }
        }
        return count;
    }

    private int countReadableFromPack() {
        int count = 0;
        for (int i = 0; i < order.size(); i++) {
            if (order.get(i).isReadableFromPack()) {
                count++;
            }
        }
        return count;
    }

    // ---- making a pack

    private void fillOrder() {
        order.clear();
        for (int i = 0; i < items.size(); i++) {
            Item item = items.get(i);
            if (item.isReadable()) {
                insertInOrder(item);
            }
        }
    }

    private void insertInOrder(Item item) {
        int place = 0;
        while (place < order.size() && isPackedAhead(order.get(place), item)) {
            place++;
        }
        order.add(place, item);
    }

    private static boolean isPackedAhead(Item one, Item other) {
        if (one.name != other.name) {
            return one.name < other.name;
        }
        if (one.letters != other.letters) {
            return one.letters > other.letters;
        }
        return one.number < other.number;
    }

    private void putFormsAside() {
        for (int i = 0; i < items.size(); i++) {
            Item item = items.get(i);
            item.formBefore = item.form;
            item.form = null;
        }
    }

    /** The delta of the pack before, if it can be the form again, otherwise null. */
    private Form reuseForm(Item item, int bound) {
        Form old = item.formBefore;
        if (old == null || old.base == null || old.damaged) {
            return null;
        }
        // A base that comes earlier in the order has its new form already; any other has none.
        Form baseForm = old.base.form;
        if (baseForm == null || baseForm.depth >= bound) {
            return null;
        }
        reusedDeltas++;
        return new Form(old.base, baseForm.depth + 1, old.parts, old.cost);
    }

    private Form findForm(Item item, int place, int window, int bound) {
        Item best = null;
        int bestCost = item.letters;
        int bestDepth = 0;
        // From the nearest one on, so that of several with the least cost the nearest stays.
        for (int i = Math.min(place, order.size()) - 1; i >= 0 && i >= place - window; i--) {
            Item candidate = order.get(i);
            Form form = candidate.form;
            if (form != null && form.depth < bound) {
                comparedDeltas++;
                int cost = costAgainst(item, candidate);
                if (cost < bestCost) {
                    best = candidate;
                    bestCost = cost;
                    bestDepth = form.depth + 1;
                }
            }
        }
        int parts = best == null ? 1 : weighParts(item, best, 1);
        return new Form(best, bestDepth, parts, bestCost);
    }

    private void fillIndex() {
        index.clear();
        for (int i = 0; i < order.size(); i++) {
            insertInIndex(order.get(i));
        }
    }

    private void insertInIndex(Item item) {
        int place = 0;
        while (place < index.size() && isIndexedAhead(index.get(place), item)) {
            place++;
        }
        index.add(place, item);
    }

    private static boolean isIndexedAhead(Item one, Item other) {
        if (one.hash != other.hash) {
            return one.hash < other.hash;
        }
        return one.number < other.number;
    }

    // ---- looking up

    private int countHashesBelow(int end) {
        int count = 0;
        for (int i = 0; i < index.size(); i++) {
            if (index.get(i).hash < end) {
                count++;
            }
        }
        return count;
    }

    private Lookup lookUp(int hash) {
        if (hash < 0 || hash >= HASHES) {
            throw new IllegalArgumentException("the hash is out of range");
        }
        Lookup lookup = new Lookup();
        int start = hash - hash % HASHES_PER_FAN_OUT;
        int low = countHashesBelow(start);
        int high = countHashesBelow(start + HASHES_PER_FAN_OUT);
        // Each look narrows the range, so there are never more looks than places.
        for (int look = 1; look <= index.size() && 0 <= low && low < high && high <= index.size(); look++) {
            int place = (low + high) / 2;
            Item item = index.get(place);
            lookup.looks = look;
            if (item.hash == hash) {
                lookup.found = item;
                return lookup;
            }
            if (item.hash < hash) {
                low = place + 1;
            } else {
                high = place;
            }
        }
        return lookup;
    }

    // ---- contents

    private static boolean isContent(long number) {
        if (number < 1 || number >= CONTENTS_END) {
            return false;
        }
        for (long rest = number; rest > 0; rest >>= LETTER_BITS) {
            if ((rest & LETTER_MASK) == 0) {
                return false;
            }
        }
        return true;
    }

    private static int countLetters(long content) {
        int count = 0;
        for (long rest = content; rest > 0; rest >>= LETTER_BITS) {
            count++;
        }
        return count;
    }

    private static int letterAt(long content, int letters, int place) {
        return (int) (content >> LETTER_BITS * (letters - 1 - place)) & LETTER_MASK;
    }

    private static int hashOf(long content) {
        int letters = countLetters(content);
        int hash = HASH_START;
        for (int place = 0; place < letters; place++) {
            hash = (hash * HASH_FACTOR + letterAt(content, letters, place)) % HASHES;
        }
        return hash;
    }

    // ---- deltas

    private static int costAgainst(Item item, Item base) {
        return DELTA_COST + weighParts(item, base, COPY_COST);
    }

    /** The parts of the delta, a copy counted as often as told, an added letter once. */
    private static int weighParts(Item item, Item base, int copyWeight) {
        int weight = 0;
        int place = 0;
        while (place < item.letters) {
            int copied = longestCopy(item, place, base);
            if (copied >= SHORTEST_COPY) {
                weight += copyWeight;
                place += copied;
            } else {
                weight++;
                place++;
            }
        }
        return weight;
    }

    private static int longestCopy(Item item, int place, Item base) {
        int longest = 0;
        for (int from = 0; from < base.letters; from++) {
            longest = Math.max(longest, countAlike(item, place, base, from));
        }
        return longest;
    }

    private static int countAlike(Item item, int place, Item base, int from) {
        int most = Math.min(item.letters - place, base.letters - from);
        int count = 0;
        while (count < most && item.letter(place + count) == base.letter(from + count)) {
            count++;
        }
        return count;
    }

    /** A stored object. */
    private static final class Item {
        final int number;
        final int name;
        final long content;
        final int letters;
        final int hash;
        boolean live;
        boolean loose;
        /** Its form in the pack; null if there is none. */
        Form form;
        /** Its form in the pack before this one; null if there was none. */
        Form formBefore;

        Item(int number, int name, long content) {
            this.number = number;
            this.name = name;
            this.content = content;
            this.letters = countLetters(content);
            this.hash = hashOf(content);
            this.live = true;
            this.loose = true;
            this.form = null;
            this.formBefore = null;
        }

        int letter(int place) {
            return letterAt(content, letters, place);
        }

        boolean isReadable() {
            return live && (loose || isReadableFromPack());
        }

        /** Live or deleted, loose or not. */
        boolean isReadableFromPack() {
            for (Item item = this; item != null; item = item.baseItem()) {
                if (item.form == null || item.form.damaged) {
                    return false;
                }
            }
            return true;
        }

        boolean dependsOn(Item other) {
            for (Item item = baseItem(); item != null; item = item.baseItem()) {
                if (item == other) {
                    return true;
                }
            }
            return false;
        }

        /** The base of its form; null if the form is whole or missing. */
        Item baseItem() {
            return form == null ? null : form.base;
        }
    }

    /** What the pack has for an object. */
    private static final class Form {
        /** Null for a whole form. */
        final Item base;
        final int depth;
        final int parts;
        final int cost;
        boolean damaged;

        Form(Item base, int depth, int parts, int cost) {
            this.base = base;
            this.depth = depth;
            this.parts = parts;
            this.cost = cost;
            this.damaged = false;
        }
    }

    /** What came of looking up a hash. */
    private static final class Lookup {
        /** Null if none was found. */
        Item found;
        int looks;

        Lookup() {
            this.found = null;
            this.looks = 0;
        }
    }
}
