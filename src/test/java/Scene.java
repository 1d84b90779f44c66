import java.util.ArrayList;
import java.util.List;

/** Calls that bring a new object into some state; made twice, they bring about twins. */
final class Scene {
    /** As it is made. */
    static final Scene NEW = new Scene(List.of());

    /** Nothing is as at first: other rules, stores, sights, a year, both images, acts on the pad that can be. */
    static final Scene BUSY = of("lands(5, 2)", "set(0, 3)", "land(4, 0, 9)", "seen(4, 8, true)", "image(0)")
        .and("lands(7, 3)", "set(0, 2)", "set(1, 5)", "set(2, 7)", "set(3, 3)", "set(4, 2)")
        .and("land(0, 0, 7)", "land(1, 1, 1)", "land(6, 3, 60)", "land(6, 2, 55)", "land(5, 3, 20)")
        .pad(".:").and("done()", "seen(2, 4, true)", "seen(0, 9, false)", "image(1)")
        .and("land(3, 2, 17)", "land(2, 1, 6)").pad("dc1.");

    /** A sign on the pad can not stand there. */
    static final Scene FAULTY = BUSY.pad("x");

    /** An act on the pad, behind others, can not be. */
    static final Scene STUCK = BUSY.pad("aa1.");

    /** An act can not be, and behind it there is a fault. */
    static final Scene STUCK_AND_FAULTY = STUCK.pad("x");

    private final List<String> calls;

    private Scene(List<String> calls) {
        this.calls = calls;
    }

    static Scene of(String... calls) {
        return NEW.and(calls);
    }

    Scene and(String... more) {
        List<String> all = new ArrayList<>(calls);
        all.addAll(List.of(more));
        return new Scene(all);
    }

    /** The same call so many times, with 0, 1 and so on in place of %d. */
    Scene each(int times, String call) {
        Scene scene = this;
        for (int i = 0; i < times; i++) {
            scene = scene.and(String.format(call, i));
        }
        return scene;
    }

    /** The signs of a text are said. */
    Scene pad(String text) {
        Scene scene = this;
        for (int i = 0; i < text.length(); i++) {
            scene = scene.and("say(" + (int) text.charAt(i) + ")");
        }
        return scene;
    }

    RingShadow make() {
        RingShadow x = new RingShadow();
        for (String call : calls) {
            Calls.ask(x, call);
        }
        return x;
    }
}
