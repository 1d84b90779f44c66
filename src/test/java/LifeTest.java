/** What the document says ahead of its promises: 512 calls of one object, and that years go on by themselves. */
public final class LifeTest {
    private static final int LIFE = 512;
    private static final Due due = new Due();

    public static void main(String[] args) {
        farYears();
        manyRefusals();
        manyImages();
        manyTexts();
        twoObjects();
        due.end("LifeTest");
    }

    /** As many years as an object can live to see, and what is asked from there on. */
    private static void farYears() {
        due.promise(10, "done");
        RingShadow x = new RingShadow();
        SlowRing slow = new SlowRing();
        String[] shape = {"set(0, 7)", "set(2, 11)", "land(2, 1, 3)", "land(3, 1, 1)"};
        int calls = 0;
        for (String call : shape) {
            calls += alike(x, slow, call);
        }
        for (int i = 1; i <= 8; i++) {
            for (int k = 0; k < 60; k++) {
                calls += alike(x, slow, "say(':')");
            }
            calls += alike(x, slow, "done()");
        }
        due.is("told(8)", x.told(8), 4800);
        String[] asked = {"told(12)", "told(32)", "told(42)", "hungry(0)", "hungry(1)", "needs(2, 99)", "needs(5, 40)",
            "carry(3)", "carry(40)", "paced(2, 99)", "paced(7, 99)", "dust(1, 3, 12, 0)", "dust(1, 3, 12, 1)",
            "age(77, 99, 0)", "age(77, 99, 1)", "age(77, 99, 2)", "seen(1, 4800, true)", "laws(-1)", "look(4801, 0)"};
        for (String call : asked) {
            calls += alike(x, slow, call);
        }
        due.is("calls", calls + 1, LIFE);
    }

    private static int alike(RingShadow x, SlowRing slow, String call) {
        due.is(call, Calls.ask(x, call), Calls.ask(slow, call));
        return 1;
    }

    private static void manyRefusals() {
        due.promise(5, "say");
        RingShadow x = new RingShadow();
        for (int i = 1; i <= LIFE - 1; i++) {
            due.is("say", x.say('.'), i <= 60 ? i : RingShadow.FULL);
        }
        due.is("judge(2)", x.judge(2), 60);
        due.promise(25, "seen");
        RingShadow y = new RingShadow();
        for (int i = 1; i <= LIFE - 1; i++) {
            due.is("seen", y.seen(0, 0, true), i <= 8 ? i : RingShadow.FULL);
        }
        due.is("forget()", y.forget(), 8);
    }

    private static void manyImages() {
        due.promise(33, "restore");
        RingShadow x = new RingShadow();
        for (int i = 0; i < LIFE / 4; i++) {
            due.is("land", x.land(5, 2, i % 50), i == 0 ? 0 : (i - 1) % 50);
            due.is("image", x.image(i % 2), 1);
            due.is("restore", x.restore(1 - i % 2), i == 0 ? RingShadow.STATE : 1);
            due.is("restore", x.restore(i % 2), 1);
        }
    }

    private static void manyTexts() {
        due.promise(6, "wipe");
        RingShadow x = new RingShadow();
        for (int i = 0; i < LIFE / 4; i++) {
            due.is("say", x.say(i % 2 == 0 ? '.' : 'a'), 1);
            due.is("say", x.say(i % 2 == 0 ? ':' : 'b'), 2);
            due.is("judge(2)", x.judge(2), i % 2 == 0 ? 11 : RingShadow.NO);
            due.is("wipe", x.wipe(), 2);
        }
    }

    /** What is done to one object is nothing to another one. */
    private static void twoObjects() {
        due.promise(1, "A new object");
        RingShadow alone = Scene.BUSY.make();
        RingShadow x = Scene.BUSY.make();
        RingShadow y = Scene.NEW.make();
        String before = Due.all(y);
        due.holds("one is as if it were alone", Due.all(x).equals(Due.all(alone)));
        due.holds("the other one is new", Due.all(y).equals(before) && before.equals(Due.all(new RingShadow())));
        String[] turns = {"judge(3)", "hungry(1)", "needs(3, 20)", "carry(2)", "ways(2, 2, 11, 6)", "look(3, 1)",
            "dust(2, 4, 9, 0)", "age(9, 30, 1)", "done()", "told(8)", "restore(0)", "told(1)"};
        for (String call : turns) {
            Calls.ask(y, call);
            due.is(call, Calls.ask(x, call), Calls.ask(alone, call));
            Calls.ask(y, "lands(9, 8)");
        }
    }
}
