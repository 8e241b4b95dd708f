import java.util.Random;
import java.util.function.Supplier;

/** Long runs of calls, drawn from fixed seeds, each answered by the program as by the model. */
public final class ModelTest {
    private static final int RUNS = 1500;
    private static final int CALLS = 512;
    private static final int CALLS_TO_ASK_ALL = 7 * 42;

    private final Due due;
    private final Random draw;
    private final Packstack x = new Packstack();
    private final Model model = new Model();
    private final long[] contents = new long[40];
    private final int names;
    private final int letters;
    private final int changes;

    private ModelTest(Due due, int seed) {
        this.due = due;
        this.draw = new Random(seed);
        this.names = 1 + draw.nextInt(4);
        this.letters = 2 + draw.nextInt(14);
        this.changes = 3 + draw.nextInt(12);
    }

    public static void main(String[] args) {
        Due due = new Due();
        for (int seed = 1; seed <= RUNS; seed++) {
            due.promise("seed " + seed);
            ModelTest run = new ModelTest(due, seed);
            boolean asksAll = seed % 10 == 0;
            for (int call = 0; call < (asksAll ? CALLS - CALLS_TO_ASK_ALL : CALLS); call++) {
                run.makeCall(call);
            }
            if (asksAll) {
                run.askAll();
            }
        }
        due.close("ModelTest");
    }

    private void both(String call, Supplier<Object> program, Supplier<Object> wanted) {
        due.same(call, answer(program), answer(wanted));
    }

    private static String answer(Supplier<Object> call) {
        try {
            return String.valueOf(call.get());
        } catch (RuntimeException e) {
            return e.getClass().getName();
        }
    }

    private void makeCall(int call) {
        if (draw.nextInt(100) < (call < 60 ? 70 : 8)) {
            store();
        } else if (draw.nextInt(changes) == 0) {
            change();
        } else {
            ask();
        }
    }

    private void store() {
        int stored = model.objects();
        long content = draw.nextInt(30) == 0 ? anyNumber() : content(stored);
        int name = draw.nextInt(30) == 0 ? draw.nextInt(140) - 20 : draw.nextInt(names);
        both("store(" + name + ", " + content + ")", () -> x.store(name, content), () -> model.store(name, content));
        if (model.objects() > stored) {
            contents[stored] = content;
        }
    }

    private void change() {
        int object = object();
        switch (draw.nextInt(8)) {
            case 0 -> both("delete(" + object + ")", () -> x.delete(object), () -> model.delete(object));
            case 1, 2 -> both("damage(" + object + ")", () -> x.damage(object), () -> model.damage(object));
            case 3 -> both("prune()", x::prune, model::prune);
            default -> {
                int window = draw.nextInt(20) == 0 ? draw.nextInt(12) - 1 : 1 + draw.nextInt(8);
                int bound = draw.nextInt(20) == 0 ? draw.nextInt(10) - 1 : draw.nextInt(7);
                boolean reuses = draw.nextInt(3) > 0;
                both("pack(" + window + ", " + bound + ", " + reuses + ")",
                    () -> x.pack(window, bound, reuses), () -> model.pack(window, bound, reuses));
            }
        }
    }

    private void ask() {
        int object = object();
        int other = object();
        int hash = draw.nextInt(3) == 0 ? draw.nextInt(4200) - 50 : knownHash();
        long content = draw.nextInt(2) == 0 ? anyNumber() : content(model.objects());
        switch (draw.nextInt(20)) {
            case 0 -> both("objects()", x::objects, model::objects);
            case 1 -> both("isLive(" + object + ")", () -> x.isLive(object), () -> model.isLive(object));
            case 2 -> both("isLoose(" + object + ")", () -> x.isLoose(object), () -> model.isLoose(object));
            case 3 -> both("canRead(" + object + ")", () -> x.canRead(object), () -> model.canRead(object));
            case 4 -> both("read(" + object + ")", () -> x.read(object), () -> model.read(object));
            case 5 -> both("compared()", x::compared, model::compared);
            case 6 -> both("reused()", x::reused, model::reused);
            case 7 -> both("forms()", x::forms, model::forms);
            case 8 -> both("cost()", x::cost, model::cost);
            case 9 -> both("costOf(" + object + ")", () -> x.costOf(object), () -> model.costOf(object));
            case 10 -> both("base(" + object + ")", () -> x.base(object), () -> model.base(object));
            case 11 -> both("depth(" + object + ")", () -> x.depth(object), () -> model.depth(object));
            case 12 -> both("parts(" + object + ")", () -> x.parts(object), () -> model.parts(object));
            case 13 -> both("dependents(" + object + ")", () -> x.dependents(object), () -> model.dependents(object));
            case 14 -> both("deltaCost(" + object + ", " + other + ")",
                () -> x.deltaCost(object, other), () -> model.deltaCost(object, other));
            case 15 -> both("hash(" + content + ")", () -> x.hash(content), () -> model.hash(content));
            case 16 -> both("indexAt(" + other + ")", () -> x.indexAt(other), () -> model.indexAt(other));
            case 17 -> askFanOut(draw.nextInt(20) - 2);
            case 18 -> both("find(" + hash + ")", () -> x.find(hash), () -> model.find(hash));
            default -> both("looks(" + hash + ")", () -> x.looks(hash), () -> model.looks(hash));
        }
    }

    private void askFanOut(int b) {
        both("fanOut(" + b + ")", () -> x.fanOut(b), () -> model.fanOut(b));
    }

    /** Questions with every argument that there is, and those beside them. */
    private void askAll() {
        for (int i = -1; i <= 40; i++) {
            int object = i;
            both("base(" + object + ")", () -> x.base(object), () -> model.base(object));
            both("costOf(" + object + ")", () -> x.costOf(object), () -> model.costOf(object));
            both("parts(" + object + ")", () -> x.parts(object), () -> model.parts(object));
            both("dependents(" + object + ")", () -> x.dependents(object), () -> model.dependents(object));
            both("read(" + object + ")", () -> x.read(object), () -> model.read(object));
            both("indexAt(" + object + ")", () -> x.indexAt(object), () -> model.indexAt(object));
            askFanOut(object);
        }
    }

    /** Mostly one that is there, sometimes one beside them. */
    private int object() {
        return draw.nextInt(25) == 0 ? draw.nextInt(45) - 2 : draw.nextInt(model.objects() + 1);
    }

    private int knownHash() {
        return model.objects() == 0 ? 0 : model.hash(contents[draw.nextInt(model.objects())]) + draw.nextInt(5) / 4;
    }

    private long anyNumber() {
        return draw.nextLong() >>> draw.nextInt(64);
    }

    /** Often another object's content with some letters changed, so that deltas are found. */
    private long content(int stored) {
        StringBuilder text = new StringBuilder();
        if (stored > 0 && draw.nextInt(5) > 0) {
            text.append(Long.toHexString(contents[draw.nextInt(stored)]));
        }
        for (int change = draw.nextInt(4); change > 0 || text.length() == 0; change--) {
            int place = draw.nextInt(text.length() + 1);
            int kind = draw.nextInt(3);
            if (kind == 0 || text.length() == 0) {
                text.insert(place, letters(1 + draw.nextInt(15)));
            } else if (kind == 1) {
                text.delete(0, place);
            } else {
                text.append(text, 0, place);
            }
            text.setLength(Math.min(15, text.length()));
        }
        return Long.parseLong(text.toString(), 16);
    }

    private String letters(int count) {
        StringBuilder text = new StringBuilder();
        for (int i = 0; i < count; i++) {
            text.append(Character.forDigit(1 + draw.nextInt(letters), 16));
        }
        return text.toString();
    }
}
