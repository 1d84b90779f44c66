/** Counts and prints the calls whose answer is not the one that is due. */
final class Due {
    private int calls;
    private int wrong;
    private String promise = "";

    void promise(int number, String name) {
        promise = "promise " + number + " (" + name + ")";
    }

    void is(String call, long got, long want) {
        calls++;
        if (got != want) {
            wrong++;
            System.out.println(promise + ": " + call + " answered " + got + ", due is " + want);
        }
    }

    void holds(String what, boolean so) {
        is(what, so ? 1 : 0, 1);
    }

    /** Says all signs of a text. */
    static void say(RingShadow x, String text) {
        for (int i = 0; i < text.length(); i++) {
            x.say(text.charAt(i));
        }
    }

    /** The object with this text alone on its pad. */
    static RingShadow pad(RingShadow x, String text) {
        x.wipe();
        say(x, text);
        return x;
    }

    /** All that told() can tell, as one text. */
    static String all(RingShadow x) {
        StringBuilder text = new StringBuilder();
        for (int what = 0; what < 104; what++) {
            text.append(x.told(what)).append(' ');
        }
        return text.toString();
    }

    void end(String name) {
        System.out.println(name + ": " + calls + " answers, " + wrong + " not as due");
        if (wrong != 0) {
            System.exit(1);
        }
    }
}
