import java.util.function.Supplier;

/** All that an object of Packstack answers, as a text, to tell whether a call has changed it. */
final class Shot {
    private final StringBuilder text = new StringBuilder();

    private Shot() {
    }

    /** At most 400 calls, so that making the object and this stay within the 512 that are promised. */
    static String of(Packstack x) {
        Shot shot = new Shot();
        shot.ask("objects", x::objects);
        int objects = x.objects();
        for (int i = 0; i < objects; i++) {
            int object = i;
            shot.ask("isLive " + object, () -> x.isLive(object));
            shot.ask("isLoose", () -> x.isLoose(object));
            shot.ask("canRead", () -> x.canRead(object));
            shot.ask("read", () -> x.read(object));
            shot.ask("base", () -> x.base(object));
            shot.ask("depth", () -> x.depth(object));
            shot.ask("parts", () -> x.parts(object));
            shot.ask("dependents", () -> x.dependents(object));
        }
        shot.ask("compared", x::compared);
        shot.ask("reused", x::reused);
        shot.ask("forms", x::forms);
        shot.ask("cost", x::cost);
        int forms = x.forms();
        for (int i = 0; i < forms; i++) {
            int place = i;
            shot.ask("indexAt " + place, () -> x.indexAt(place));
        }
        for (int i = 0; i < 16; i++) {
            int b = i;
            shot.ask("fanOut " + b, () -> x.fanOut(b));
        }
        return shot.text.toString();
    }

    /** What comes of it later: the damage that the forms have, and what is reused of them. */
    static String later(Packstack x) {
        Shot shot = new Shot();
        shot.ask("prune", x::prune);
        shot.ask("pack", () -> x.pack(8, 6, true));
        shot.ask("compared", x::compared);
        shot.ask("reused", x::reused);
        shot.ask("forms", x::forms);
        shot.ask("store", () -> x.store(5, 1L));
        return shot.text.toString();
    }

    private void ask(String call, Supplier<Object> made) {
        text.append(call).append(' ');
        try {
            text.append(made.get());
        } catch (RuntimeException e) {
            text.append(e.getClass().getSimpleName());
        }
        text.append('\n');
    }
}
