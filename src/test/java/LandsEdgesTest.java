/** Promises 1 to 7 and 32 to 34 at the edges that the document names. */
public final class LandsEdgesTest {
    private static final int UNKNOWN = RingShadow.UNKNOWN, OUTSIDE = RingShadow.OUTSIDE, STATE = RingShadow.STATE;
    private static final int FULL = RingShadow.FULL, NONE = RingShadow.NONE;
    private static final Scene NEW = Scene.NEW, BUSY = Scene.BUSY;
    private static final String DOTS = ".".repeat(60);
    private static final Due due = new Due();

    public static void main(String[] args) {
        newObject();
        lands();
        landsAsAtFirst();
        landsLeaveTheRest();
        set();
        setSlits();
        landRanges();
        landCap();
        landOrder();
        say();
        sayWhenFull();
        wipe();
        faultNone();
        faultBySign();
        faultByLands();
        faultWhenMoreMustCome();
        image();
        restore();
        restoreLeavesThePad();
        told();
        toldOfLands();
        due.end("LandsEdgesTest");
    }

    private static void newObject() {
        due.promise(1, "A new object");
        int[] first = {0, 6, 2, 1, 0, 0, 1, 1, 0, 0};
        for (int what = 0; what < first.length; what++) {
            due.still(NEW, first[what], "told(" + what + ")");
        }
        int[] land = {3, 2, 0, 50};
        for (int what = 0; what < land.length; what++) {
            due.still(NEW, land[what], "told(" + (10 + what) + ")", "told(" + (60 + what) + ")");
        }
        due.still(NEW, OUTSIDE, "told(70)");
        due.still(NEW, 0, "wipe()", "forget()", "done()");
        due.still(NEW, NONE, "fault()");
        due.still(NEW, STATE, "restore(0)", "restore(1)");
        // 10, 8, 6, 4, 2 times each PACE of 1 to 9: no AGE reaches 100
        due.still(NEW, 1350, "laws(-1)");
    }

    private static void lands() {
        due.promise(2, "lands");
        due.answers(NEW, 6, "lands(2, 1)", "lands(9, 1)", "lands(9, 8)", "lands(3, 2)", "lands(6, 5)");
        due.answers(BUSY, 7, "lands(2, 1)", "lands(9, 1)", "lands(9, 8)");
        due.still(BUSY, OUTSIDE, "lands(1, 1)", "lands(1, 0)", "lands(0, 0)", "lands(-1, -2)", "lands(MIN, 1)");
        due.still(BUSY, OUTSIDE, "lands(10, 1)", "lands(10, 8)", "lands(10, 9)", "lands(MAX, 1)", "lands(MAX, MAX)");
        due.still(BUSY, OUTSIDE, "lands(2, 0)", "lands(9, 0)", "lands(7, -1)", "lands(7, MIN)");
        due.still(BUSY, OUTSIDE, "lands(2, 2)", "lands(7, 7)", "lands(7, 8)", "lands(9, 9)", "lands(9, MAX)");
        due.still(Scene.of("lands(9, 8)"), 9, "told(1)");
        due.still(Scene.of("lands(9, 8)"), 8, "told(2)");
        due.still(Scene.of("lands(2, 1)"), 2, "told(1)");
        due.still(Scene.of("lands(2, 1)"), 1, "told(2)");
    }

    private static void landsAsAtFirst() {
        // more LANDS than there were, fewer, as many
        for (String call : new String[] {"lands(9, 2)", "lands(2, 1)", "lands(7, 3)"}) {
            Scene then = BUSY.and(call);
            int n = (int) Calls.ask(then.make(), "told(1)");
            for (int k = 0; k < n; k++) {
                int at = 10 * (1 + k);
                due.answers(then, 3, "told(" + at + ")");
                due.answers(then, 2, "told(" + (at + 1) + ")");
                due.answers(then, 0, "told(" + (at + 2) + ")");
                due.answers(then, 50, "told(" + (at + 3) + ")");
            }
            due.still(then, 0, "told(8)", "told(9)", "forget()");
        }
        // a LAND that went and came again
        due.still(BUSY.and("lands(2, 1)", "lands(7, 3)"), 0, "told(72)");
        due.still(BUSY.and("lands(2, 1)"), 90, "laws(-1)");
    }

    private static void landsLeaveTheRest() {
        Scene then = BUSY.and("lands(9, 2)");
        int[] kept = {2, 5, 7, 3, 2};
        for (int which = 0; which < kept.length; which++) {
            due.still(then, kept[which], "told(" + (3 + which) + ")");
        }
        due.still(then, 4, "told(0)");
        due.still(then, NONE, "fault()");
        due.answers(then, 1, "restore(0)", "restore(1)");
        due.still(then.and("restore(0)"), 5, "told(1)");
    }

    private static void set() {
        due.promise(3, "set");
        int[] first = {1, 0, 0, 1, 1};
        int[] busy = {2, 5, 7, 3, 2};
        int[] least = {1, 0, 0, 0, 0};
        int[] most = {9, 99, 20, 19, 19};
        for (int which = 0; which < 5; which++) {
            String call = "set(" + which + ", ";
            String told = "told(" + (3 + which) + ")";
            due.answers(NEW, first[which], call + least[which] + ")", call + most[which] + ")");
            due.answers(BUSY, busy[which], call + least[which] + ")", call + most[which] + ")");
            due.still(NEW.and(call + least[which] + ")"), least[which], told);
            due.still(NEW.and(call + most[which] + ")"), most[which], told);
            due.still(BUSY, OUTSIDE, call + (least[which] - 1) + ")", call + (most[which] + 1) + ")");
            due.still(BUSY, OUTSIDE, call + "MIN)", call + "MAX)");
            due.still(BUSY, busy[which], call + busy[which] + ")");
        }
        due.still(BUSY, OUTSIDE, "set(-1, 1)", "set(5, 1)", "set(MIN, 1)", "set(MAX, 1)", "set(5, MAX)", "set(-1, -1)");
    }

    private static void setSlits() {
        due.still(BUSY, OUTSIDE, "set(2, 1)");
        due.answers(BUSY, 7, "set(2, 0)", "set(2, 2)");
        due.still(BUSY.and("set(2, 2)"), 2, "told(5)", "set(2, 2)");
        // none: not even where A and B leave over nothing
        Scene none = Scene.of("set(3, 0)", "set(4, 0)");
        due.still(none, 0, "lit(0, 0)", "lit(1, 0)", "lit(4, 3)");
        due.still(none.and("set(2, 2)", "set(2, 0)"), 0, "lit(0, 0)", "lit(1, 0)");
        due.still(none.and("set(2, 2)"), 1, "lit(0, 0)", "lit(1, 0)", "lit(4, 3)");
    }

    private static void landRanges() {
        due.promise(4, "land");
        int[] first = {3, 2, 0, 50};
        int[] most = {20, 20, 99, 99};
        // CAP is 99, so that STORE may be
        Scene wide = Scene.of("land(5, 3, 99)");
        for (int what = 0; what < 4; what++) {
            String call = "land(5, " + what + ", ";
            String told = "told(" + (60 + what) + ")";
            due.answers(wide, what == 3 ? 99 : first[what], call + "0)", call + most[what] + ")");
            due.still(wide.and(call + "0)"), 0, told);
            due.still(wide.and(call + most[what] + ")"), most[what], told);
            due.still(wide.and(call + most[what] + ")"), first[what], "told(" + (50 + what) + ")");
            due.still(BUSY, OUTSIDE, call + "-1)", call + (most[what] + 1) + ")", call + "MIN)", call + "MAX)");
        }
        due.still(BUSY, OUTSIDE, "land(0, -1, 1)", "land(0, 4, 1)", "land(6, MIN, 1)", "land(6, MAX, 1)");
        due.answers(Scene.of("lands(2, 1)"), 3, "land(0, 0, 1)", "land(1, 0, 1)");
        due.still(Scene.of("lands(2, 1)"), UNKNOWN, "land(-1, 0, 1)", "land(2, 0, 1)");
        due.answers(Scene.of("lands(9, 1)"), 3, "land(8, 0, 1)");
        due.still(Scene.of("lands(9, 1)"), UNKNOWN, "land(9, 0, 1)", "land(MIN, 0, 1)", "land(MAX, 0, 1)");
    }

    private static void landCap() {
        Scene ten = Scene.of("land(2, 3, 10)");
        due.still(ten, STATE, "land(2, 2, 11)", "land(2, 2, 99)");
        due.answers(ten, 0, "land(2, 2, 10)");
        due.still(ten.and("land(2, 2, 10)"), 10, "told(32)");
        due.still(Scene.of("land(2, 3, 0)"), STATE, "land(2, 2, 1)");
        due.still(Scene.of("land(2, 3, 0)"), 0, "land(2, 2, 0)");
        Scene full = ten.and("land(2, 2, 10)");
        due.answers(full, 10, "land(2, 3, 9)", "land(2, 3, 10)", "land(2, 3, 11)", "land(2, 3, 0)");
        due.still(full.and("land(2, 3, 9)"), 9, "told(32)");
        due.still(full.and("land(2, 3, 10)"), 10, "told(32)");
        due.still(full.and("land(2, 3, 11)"), 10, "told(32)");
        due.still(full.and("land(2, 3, 0)"), 0, "told(32)");
        due.still(full.and("land(2, 3, 9)", "land(2, 3, 99)"), 9, "told(32)");
        // a YIELD or EAT above CAP, or above STORE, is nothing to it
        due.answers(Scene.of("land(2, 3, 0)"), 3, "land(2, 0, 20)");
        due.answers(Scene.of("land(2, 3, 0)"), 2, "land(2, 1, 20)");
        due.still(full.and("land(2, 0, 3)", "land(2, 1, 3)"), 10, "told(32)");
    }

    private static void landOrder() {
        due.still(BUSY, UNKNOWN, "land(7, 4, 1)", "land(-1, 0, 21)", "land(7, -1, 100)", "land(7, 2, 99)");
        due.still(BUSY, OUTSIDE, "land(5, 2, 100)", "land(5, 4, 99)");
        due.still(BUSY, STATE, "land(5, 2, 21)");
    }

    private static void say() {
        due.promise(5, "say");
        due.answers(NEW, 1, "say(33)", "say(126)");
        due.answers(BUSY, 5, "say(33)", "say(126)");
        due.still(BUSY, OUTSIDE, "say(32)", "say(127)", "say(0)", "say(-1)", "say(256)", "say(MIN)", "say(MAX)");
        // what would be a sign if it were cut
        due.still(BUSY, OUTSIDE, "say(302)", "say(65582)", "say(-65490)");
        due.still(BUSY.pad("!"), 4, "fault()");
        due.still(BUSY.pad("~"), 4, "fault()");
        due.still(BUSY.and("say(32)"), NONE, "fault()");
    }

    private static void sayWhenFull() {
        Scene last = NEW.pad(DOTS.substring(1));
        Scene full = NEW.pad(DOTS);
        due.answers(last, 60, "say(46)", "say(33)");
        due.still(full, FULL, "say(46)", "say(33)", "say(126)", "say(97)");
        due.still(full, OUTSIDE, "say(32)", "say(127)", "say(MIN)", "say(MAX)");
        due.still(full.and("say(33)"), NONE, "fault()");
        due.still(full, 60, "told(0)");
        due.answers(full.and("wipe()"), 1, "say(46)");
        due.answers(full.and("done()"), 1, "say(46)");
    }

    private static void wipe() {
        due.promise(6, "wipe");
        due.still(NEW, 0, "wipe()");
        due.answers(NEW.pad("!"), 1, "wipe()");
        due.answers(NEW.pad(DOTS), 60, "wipe()");
        due.answers(Scene.FAULTY, 5, "wipe()");
        due.still(NEW.pad(DOTS).and("wipe()"), 0, "wipe()", "told(0)", "judge(2)");
        due.still(Scene.FAULTY.and("wipe()"), NONE, "fault()");
        due.still(BUSY.and("wipe()"), 11, "told(8)");
        due.still(BUSY.and("wipe()"), 17, "told(42)");
        due.still(BUSY.and("wipe()"), 2, "told(9)");
        // signs of before are not there again
        due.still(NEW.pad("xxx").and("wipe()").pad("ab"), 2, "fault()");
    }

    private static void faultNone() {
        due.promise(7, "fault");
        String[] fine = {"", ".", ":", "af1", "fa9", "aa1", "ab1ba9", "::..", ".ab1.", DOTS, ":".repeat(60),
            "ab1".repeat(20)};
        for (String text : fine) {
            due.still(NEW.pad(text), NONE, "fault()");
        }
    }

    private static void faultBySign() {
        // signs beside those that may stand there
        String[] first = {"-", "/", "0", "1", "9", ";", "`", "g", "z", "A", "F", "!", "~"};
        for (String sign : first) {
            due.still(NEW.pad(sign), 0, "fault()");
            due.still(NEW.pad("." + sign), 1, "fault()");
            due.still(NEW.pad("ab1" + sign), 3, "fault()");
            due.still(NEW.pad("a" + sign), 1, "fault()");
            due.still(NEW.pad(DOTS.substring(1) + sign), 59, "fault()");
        }
        for (String sign : new String[] {".", ":", "1", "0"}) {
            due.still(NEW.pad("a" + sign), 1, "fault()");
        }
        for (String sign : new String[] {"/", "0", ":", ";", ".", "a", "f", "!", "~"}) {
            due.still(NEW.pad("ab" + sign), 2, "fault()");
        }
        for (String sign : new String[] {"1", "9"}) {
            due.still(NEW.pad("ab" + sign), NONE, "fault()");
        }
        // the first of several, and not that more must come
        due.still(NEW.pad("x!"), 0, "fault()");
        due.still(NEW.pad(".a.b"), 2, "fault()");
        due.still(NEW.pad("ab0a"), 2, "fault()");
    }

    private static void faultByLands() {
        Scene two = Scene.of("lands(2, 1)");
        Scene nine = Scene.of("lands(9, 1)");
        due.still(two.pad("ba1"), NONE, "fault()");
        due.still(two.pad("ca1"), 0, "fault()");
        due.still(two.pad("bc1"), 1, "fault()");
        due.still(nine.pad("ia1"), NONE, "fault()");
        due.still(nine.pad("ai1"), NONE, "fault()");
        due.still(nine.pad("ja1"), 0, "fault()");
        due.still(nine.pad("aj1"), 1, "fault()");
        // the PAD stays while LANDS go and come
        due.still(NEW.pad(".ag1"), 2, "fault()");
        due.still(NEW.pad(".ag1").and("lands(7, 2)"), NONE, "fault()");
        due.still(NEW.pad(".af1").and("lands(5, 2)"), 2, "fault()");
        due.still(NEW.pad(".af1").and("lands(5, 2)", "lands(6, 2)"), NONE, "fault()");
    }

    private static void faultWhenMoreMustCome() {
        for (String text : new String[] {"a", "ab", ".f", ":ff", "ab1c", "ab1cd", DOTS.substring(1) + "a"}) {
            due.still(NEW.pad(text), text.length(), "fault()");
        }
        due.still(NEW.pad(DOTS.substring(2) + "ab"), 60, "fault()");
        due.still(NEW.pad(DOTS.substring(3) + "ab1"), NONE, "fault()");
    }

    private static void image() {
        due.promise(32, "image");
        due.answers(NEW, 1, "image(0)", "image(1)");
        due.answers(BUSY, 1, "image(0)", "image(1)");
        due.still(BUSY, OUTSIDE, "image(-1)", "image(2)", "image(MIN)", "image(MAX)");
        due.still(NEW, OUTSIDE, "image(-1)", "image(2)");
        // one image is not the other
        due.still(NEW.and("image(0)"), STATE, "restore(1)");
        due.still(NEW.and("image(1)"), STATE, "restore(0)");
        due.still(BUSY.and("lands(2, 1)", "image(0)", "restore(1)"), 7, "told(1)");
        // the later one is kept
        due.still(BUSY.and("image(0)", "lands(2, 1)", "restore(0)"), 7, "told(1)");
        due.still(BUSY.and("image(0)", "lands(2, 1)", "image(0)", "lands(3, 1)", "restore(0)"), 2, "told(1)");
        // all but the PAD is as it was
        due.holds("an image changes nothing else",
            Due.all(BUSY.make()).equals(Due.all(BUSY.and("image(0)", "image(1)").make())));
    }

    private static void restore() {
        due.promise(33, "restore");
        due.still(BUSY, OUTSIDE, "restore(-1)", "restore(2)", "restore(MIN)", "restore(MAX)");
        due.still(NEW, OUTSIDE, "restore(-1)", "restore(2)");
        due.still(NEW.pad(".."), STATE, "restore(0)", "restore(1)");
        due.answers(BUSY, 1, "restore(0)", "restore(1)");
        String[] changes = {"lands(7, 3)", "set(0, 9)", "set(1, 9)", "set(2, 9)", "set(3, 9)", "set(4, 9)",
            "land(6, 0, 20)", "land(6, 1, 20)", "land(6, 2, 0)", "land(6, 3, 99)", "seen(1, 1, false)", "forget()"};
        Scene kept = BUSY.and("image(0)");
        String before = Due.all(kept.make());
        for (String change : changes) {
            due.holds("changed by " + change, !before.equals(Due.all(kept.and(change).make())));
            due.holds("as it was ahead of " + change, before.equals(Due.all(kept.and(change, "restore(0)").make())));
        }
        Scene later = kept.and("done()");
        due.still(later, 12, "told(8)");
        due.still(later.and("restore(0)"), 11, "told(8)");
        due.still(later.and("restore(0)"), 17, "told(42)");
        // an image can be taken back again and again, whatever is done in between
        Scene again = kept.and("restore(0)", "land(3, 2, 1)", "forget()", "restore(0)");
        due.still(again, 17, "told(42)");
        due.still(again, 2, "told(9)");
        // sights are those of then, not only as many
        Scene sights = Scene.of("lands(2, 1)", "seen(0, 0, true)", "seen(0, 1, true)", "image(1)", "forget()")
            .and("seen(1, 0, true)", "seen(1, 1, false)", "restore(1)");
        due.still(sights, 36, "laws(-1)");
        due.still(sights, 1200, "laws(0)");
    }

    private static void restoreLeavesThePad() {
        due.still(BUSY.and("restore(0)"), 4, "told(0)");
        due.still(BUSY.and("image(0)", "wipe()", "restore(0)"), 0, "told(0)");
        due.still(BUSY.and("image(0)").pad("gg").and("restore(0)"), 6, "told(0)", "fault()");
        // there are five LANDS again: no g
        due.still(BUSY.pad("gg").and("restore(0)"), 4, "fault()");
    }

    private static void told() {
        due.promise(34, "told");
        int[] busy = {4, 7, 3, 2, 5, 7, 3, 2, 11, 2};
        for (int what = 0; what < busy.length; what++) {
            due.still(BUSY, busy[what], "told(" + what + ")");
        }
        due.still(BUSY, OUTSIDE, "told(-1)", "told(-9)", "told(-10)", "told(MIN)", "told(MAX)", "told(100)");
        due.still(NEW.pad(DOTS), 60, "told(0)");
        due.still(Scene.of("lands(2, 1)").each(8, "seen(0, %d, true)"), 8, "told(9)");
    }

    private static void toldOfLands() {
        Scene two = Scene.of("lands(2, 1)", "land(1, 0, 4)", "land(1, 1, 5)", "land(1, 2, 6)", "land(1, 3, 7)");
        for (int what = 0; what < 4; what++) {
            due.still(two, 4 + what, "told(" + (20 + what) + ")");
        }
        due.still(two, OUTSIDE, "told(14)", "told(19)", "told(24)", "told(29)", "told(30)", "told(33)");
        Scene nine = Scene.of("lands(9, 1)", "land(8, 0, 4)", "land(8, 1, 5)", "land(8, 2, 6)", "land(8, 3, 7)");
        for (int what = 0; what < 4; what++) {
            due.still(nine, 4 + what, "told(" + (90 + what) + ")");
        }
        due.still(nine, OUTSIDE, "told(94)", "told(99)", "told(100)", "told(103)");
    }
}
