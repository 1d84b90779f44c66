/** Counts and prints the calls whose answer is not the one that is due. */
final class Due {
    private int calls;
    private int wrong;
    private String promise = "";

    void promise(int number, String name) {
        promise = "promise " + number + " (" + name + ")";
    }

    void is(String call, long got, long want) {
        calls++;
        if (got != want) {
            wrong++;
            System.out.println(promise + ": " + call + " answered " + got + ", due is " + want);
        }
    }

    void holds(String what, boolean so) {
        is(what, so ? 1 : 0, 1);
    }

    /** Each call, on an object of its own, answers this. */
    void answers(Scene scene, long want, String... asked) {
        for (String call : asked) {
            is(call, Calls.ask(scene.make(), call), want);
        }
    }

    /** Each call, on an object of its own, answers this and leaves all as it was. */
    void still(Scene scene, long want, String... asked) {
        String before = everything(scene.make());
        for (String call : asked) {
            RingShadow x = scene.make();
            is(call, Calls.ask(x, call), want);
            holds("nothing changed by " + call, before.equals(everything(x)));
        }
    }

    /** Says all signs of a text. */
    static void say(RingShadow x, String text) {
        for (int i = 0; i < text.length(); i++) {
            x.say(text.charAt(i));
        }
    }

    /** The object with this text alone on its pad. */
    static RingShadow pad(RingShadow x, String text) {
        x.wipe();
        say(x, text);
        return x;
    }

    /** All that told() can tell, and the laws that fit, as one text. */
    static String all(RingShadow x) {
        StringBuilder text = new StringBuilder();
        for (int what = 0; what < 10; what++) {
            text.append(x.told(what)).append(' ');
        }
        for (int what = 10; what < 100; what += what % 10 == 3 ? 7 : 1) {
            text.append(x.told(what)).append(' ');
        }
        return text.append(x.laws(-1)).append(' ').append(x.laws(x.laws(-1) / 2)).toString();
    }

    /** All that can be asked for, the pad and both images too; the object is spent by that. */
    private static String everything(RingShadow x) {
        StringBuilder text = new StringBuilder(all(x));
        text.append(" pad ").append(x.fault());
        for (int what = 0; what < 4; what++) {
            text.append(' ').append(x.judge(what));
        }
        for (int land = 0; land < x.told(1); land++) {
            text.append(' ').append(x.behind(land, 0)).append(' ').append(x.behind(land, 1));
        }
        for (int k = 0; k < 2; k++) {
            text.append(" image ").append(x.restore(k)).append(' ').append(all(x));
        }
        return text.toString();
    }

    void end(String name) {
        System.out.println(name + ": " + calls + " answers, " + wrong + " not as due");
        if (wrong != 0) {
            System.exit(1);
        }
    }
}
