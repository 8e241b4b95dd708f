import java.util.ArrayList;
import java.util.Comparator;
import java.util.List;
import java.util.Map;
import java.util.TreeMap;

/**
 * The document once more, in texts and maps and without a thought for room or
 * speed, to compare the program with. A letter is a hexadecimal digit.
 */
final class Model {
    private record Form(int base, int depth, List<String> parts, int cost) { }

    private final List<Integer> names = new ArrayList<>();
    private final List<String> contents = new ArrayList<>();
    private final List<Boolean> live = new ArrayList<>();
    private final List<Boolean> loose = new ArrayList<>();
    private Map<Integer, Form> pack = new TreeMap<>();
    private final List<Integer> damaged = new ArrayList<>();
    private int compared = 0;
    private int reused = 0;

    private static boolean isContent(long content) {
        return content > 0 && Long.toHexString(content).matches("[1-9a-f]{1,15}");
    }

    private static List<String> delta(String content, String base) {
        List<String> parts = new ArrayList<>();
        String rest = content;
        while (!rest.isEmpty()) {
            int length = rest.length();
            while (length > 1 && !base.contains(rest.substring(0, length))) {
                length--;
            }
            parts.add(rest.substring(0, length));
            rest = rest.substring(length);
        }
        return parts;
    }

    private static int costOf(List<String> delta) {
        return 1 + delta.stream().mapToInt(part -> part.length() == 1 ? 1 : 2).sum();
    }

    private static int hashOf(String content) {
        int hash = 7;
        for (char letter : content.toCharArray()) {
            hash = (hash * 33 + Character.digit(letter, 16)) % 4096;
        }
        return hash;
    }

    private void place(int object) {
        if (object < 0 || object >= names.size()) {
            throw new IndexOutOfBoundsException();
        }
    }

    private static void argument(boolean right) {
        if (!right) {
            throw new IllegalArgumentException();
        }
    }

    private static void state(boolean right) {
        if (!right) {
            throw new IllegalStateException();
        }
    }

    private Form form(int object) {
        place(object);
        state(pack.containsKey(object));
        return pack.get(object);
    }

    private boolean inPack(int object) {
        Form form = pack.get(object);
        return form != null && !damaged.contains(object) && (form.base == -1 || inPack(form.base));
    }

    private int countInPack() {
        int count = 0;
        for (int object : pack.keySet()) {
            count += inPack(object) ? 1 : 0;
        }
        return count;
    }

    long store(int name, long content) {
        argument(name >= 0 && name <= 99 && isContent(content));
        state(names.size() < 40);
        names.add(name);
        contents.add(Long.toHexString(content));
        live.add(true);
        loose.add(true);
        return names.size() - 1;
    }

    long delete(int object) {
        place(object);
        state(live.get(object));
        live.set(object, false);
        loose.set(object, false);
        return live.stream().filter(each -> each).count();
    }

    int objects() {
        return names.size();
    }

    boolean isLive(int object) {
        place(object);
        return live.get(object);
    }

    boolean isLoose(int object) {
        place(object);
        return loose.get(object);
    }

    boolean canRead(int object) {
        place(object);
        return live.get(object) && (loose.get(object) || inPack(object));
    }

    long read(int object) {
        state(canRead(object));
        return Long.parseLong(contents.get(object), 16);
    }

    long pack(int window, int bound, boolean reuses) {
        argument(window >= 1 && window <= 8 && bound >= 0 && bound <= 6);
        List<Integer> order = new ArrayList<>();
        for (int object = 0; object < names.size(); object++) {
            if (canRead(object)) {
                order.add(object);
            }
        }
        order.sort(Comparator.comparing((Integer object) -> names.get(object))
            .thenComparing(object -> -contents.get(object).length())
            .thenComparing(object -> object));
        Map<Integer, Form> old = pack;
        pack = new TreeMap<>();
        compared = 0;
        reused = 0;
        for (int object : order) {
            pack.put(object, newForm(object, order, old, window, bound, reuses));
        }
        damaged.clear();
        return cost();
    }

    private Form newForm(int object, List<Integer> order, Map<Integer, Form> old, int window, int bound,
            boolean reuses) {
        int at = order.indexOf(object);
        Form before = old.get(object);
        if (reuses && before != null && before.base != -1 && !damaged.contains(object)) {
            int baseAt = order.indexOf(before.base);
            if (baseAt != -1 && baseAt < at && pack.get(before.base).depth < bound) {
                reused++;
                return new Form(before.base, pack.get(before.base).depth + 1, before.parts, before.cost);
            }
        }
        String content = contents.get(object);
        Form best = null;
        for (int candidate : order.subList(Math.max(0, at - window), at)) {
            int depth = pack.get(candidate).depth;
            if (depth < bound) {
                compared++;
                List<String> delta = delta(content, contents.get(candidate));
                if (best == null || costOf(delta) <= best.cost) {
                    best = new Form(candidate, depth + 1, delta, costOf(delta));
                }
            }
        }
        if (best != null && best.cost < content.length()) {
            return best;
        }
        return new Form(-1, 0, List.of(content), content.length());
    }

    long prune() {
        int pruned = 0;
        for (int object = 0; object < names.size(); object++) {
            if (loose.get(object) && inPack(object)) {
                loose.set(object, false);
                pruned++;
            }
        }
        return pruned;
    }

    long damage(int object) {
        form(object);
        state(!damaged.contains(object));
        int before = countInPack();
        damaged.add(object);
        return before - countInPack();
    }

    long compared() {
        return compared;
    }

    long reused() {
        return reused;
    }

    long forms() {
        return pack.size();
    }

    int cost() {
        return pack.values().stream().mapToInt(Form::cost).sum();
    }

    long costOf(int object) {
        return form(object).cost;
    }

    long base(int object) {
        return form(object).base;
    }

    long depth(int object) {
        return form(object).depth;
    }

    long parts(int object) {
        return form(object).parts.size();
    }

    long dependents(int object) {
        form(object);
        int count = 0;
        for (int other : pack.keySet()) {
            int base = pack.get(other).base;
            while (base != -1 && base != object) {
                base = pack.get(base).base;
            }
            count += base == object ? 1 : 0;
        }
        return count;
    }

    long deltaCost(int object, int base) {
        place(object);
        place(base);
        return costOf(delta(contents.get(object), contents.get(base)));
    }

    int hash(long content) {
        argument(isContent(content));
        return hashOf(Long.toHexString(content));
    }

    private List<Integer> index() {
        List<Integer> index = new ArrayList<>(pack.keySet());
        index.sort(Comparator.comparing(object -> hashOf(contents.get(object))));
        return index;
    }

    long indexAt(int place) {
        if (place < 0 || place >= pack.size()) {
            throw new IndexOutOfBoundsException();
        }
        return index().get(place);
    }

    int fanOut(int b) {
        argument(b >= 0 && b <= 15);
        return (int) pack.keySet().stream().filter(each -> hashOf(contents.get(each)) < 256 * (b + 1)).count();
    }

    /** The places that are looked at, the one that is found or -1 behind them. */
    private List<Integer> lookUp(int hash) {
        argument(hash >= 0 && hash <= 4095);
        List<Integer> index = index();
        List<Integer> places = new ArrayList<>();
        int low = hash < 256 ? 0 : fanOut(hash / 256 - 1);
        int high = fanOut(hash / 256);
        while (low < high) {
            int place = (low + high) / 2;
            places.add(place);
            int there = hashOf(contents.get(index.get(place)));
            if (there == hash) {
                places.add(index.get(place));
                return places;
            }
            if (there < hash) {
                low = place + 1;
            } else {
                high = place;
            }
        }
        places.add(-1);
        return places;
    }

    long find(int hash) {
        List<Integer> places = lookUp(hash);
        return places.get(places.size() - 1);
    }

    long looks(int hash) {
        return lookUp(hash).size() - 1;
    }
}
