/** Promises 1 to 7 and 32 to 34: a new object, its lands, its pad, images, what is told. */
public final class LandsTest {
    private static final Due due = new Due();

    public static void main(String[] args) {
        newObject();
        lands();
        set();
        land();
        sayAndWipe();
        fault();
        images();
        told();
        due.end("LandsTest");
    }

    private static void newObject() {
        due.promise(1, "A new object");
        RingShadow x = new RingShadow();
        int[] first = {0, 6, 2, 1, 0, 0, 1, 1, 0, 0};
        for (int what = 0; what < first.length; what++) {
            due.is("told(" + what + ")", x.told(what), first[what]);
        }
        int[] land = {3, 2, 0, 50};
        for (int k = 0; k < 6; k++) {
            for (int what = 0; what < 4; what++) {
                due.is("told of land " + k, x.told(10 * (1 + k) + what), land[what]);
            }
        }
        due.is("restore(0)", x.restore(0), RingShadow.STATE);
        due.is("fault()", x.fault(), RingShadow.NONE);
        RingShadow y = new RingShadow();
        y.lands(9, 8);
        due.is("another object's LANDS", x.told(1), 6);
    }

    private static void lands() {
        due.promise(2, "lands");
        RingShadow x = new RingShadow();
        x.land(0, 2, 9);
        x.seen(1, 1, true);
        x.set(0, 4);
        x.set(1, 33);
        x.set(2, 7);
        x.set(3, 5);
        x.set(4, 6);
        x.land(1, 0, 20);
        x.land(1, 1, 0);
        x.land(1, 3, 70);
        Due.pad(x, "..").done();
        Due.say(x, ".:.");
        due.is("lands(9, 8)", x.lands(9, 8), 6);
        int[] then = {3, 9, 8, 4, 33, 7, 5, 6, 0, 0};
        for (int what = 0; what < then.length; what++) {
            due.is("told(" + what + ")", x.told(what), then[what]);
        }
        int[] land = {3, 2, 0, 50};
        for (int k = 0; k < 9; k++) {
            for (int what = 0; what < 4; what++) {
                due.is("told of land " + k, x.told(10 * (1 + k) + what), land[what]);
            }
        }
        due.is("lands(2, 1)", x.lands(2, 1), 9);
        due.is("lands(2, 1)", x.lands(2, 1), 2);
        x.land(1, 2, 5);
        x.lands(2, 1);
        due.is("STORE of land 1", x.told(22), 0);
    }

    private static void set() {
        due.promise(3, "set");
        RingShadow x = new RingShadow();
        int[] first = {1, 0, 0, 1, 1};
        int[] least = {1, 0, 2, 0, 0};
        int[] most = {9, 99, 20, 19, 19};
        for (int which = 0; which < 5; which++) {
            due.is("least", x.set(which, least[which]), first[which]);
            due.is("most", x.set(which, most[which]), least[which]);
            due.is("most again", x.set(which, most[which]), most[which]);
            due.is("told", x.told(3 + which), most[which]);
        }
        due.is("set(2, 1)", x.set(2, 1), RingShadow.OUTSIDE);
        due.is("set(2, 0)", x.set(2, 0), 20);
        due.is("told(5)", x.told(5), 0);
    }

    private static void land() {
        due.promise(4, "land");
        RingShadow x = new RingShadow();
        int[] first = {3, 2, 0, 50};
        int[] most = {20, 20, 50, 99};
        for (int what = 0; what < 4; what++) {
            due.is("land(5, " + what + ")", x.land(5, what, most[what]), first[what]);
            due.is("told", x.told(60 + what), most[what]);
            due.is("told of another", x.told(50 + what), first[what]);
        }
        due.is("STORE above CAP", x.land(0, 2, 51), RingShadow.STATE);
        due.is("STORE above all", x.land(0, 2, 100), RingShadow.OUTSIDE);
        due.is("STORE at CAP", x.land(0, 2, 50), 0);
        due.is("CAP above STORE", x.land(0, 3, 60), 50);
        due.is("STORE stays", x.told(12), 50);
        due.is("CAP below STORE", x.land(0, 3, 7), 60);
        due.is("STORE is cut", x.told(12), 7);
        due.is("CAP up again", x.land(0, 3, 99), 7);
        due.is("STORE stays cut", x.told(12), 7);
        due.is("STORE 99", x.land(0, 2, 99), 7);
        due.is("CAP 0", x.land(0, 3, 0), 99);
        due.is("STORE 0", x.told(12), 0);
        due.is("STORE 1", x.land(0, 2, 1), RingShadow.STATE);
        x.lands(2, 1);
        due.is("a land that is gone", x.land(2, 0, 1), RingShadow.UNKNOWN);
    }

    private static void sayAndWipe() {
        due.promise(5, "say");
        RingShadow x = new RingShadow();
        due.is("told(0)", x.told(0), 0);
        due.is("say(33)", x.say(33), 1);
        due.is("say(126)", x.say(126), 2);
        for (int i = 3; i <= 60; i++) {
            due.is("say(46)", x.say(46), i);
        }
        due.is("the 61st", x.say(46), RingShadow.FULL);
        due.is("the 61st, outside", x.say(32), RingShadow.OUTSIDE);
        due.is("told(0)", x.told(0), 60);
        due.promise(6, "wipe");
        due.is("wipe()", x.wipe(), 60);
        due.is("wipe()", x.wipe(), 0);
        due.is("told(0)", x.told(0), 0);
        due.is("fault()", x.fault(), RingShadow.NONE);
        due.is("say(46)", x.say(46), 1);
        due.is("wipe()", x.wipe(), 1);
    }

    private static void fault() {
        due.promise(7, "fault");
        RingShadow x = new RingShadow();
        String[] fine = {"", ".", ":", ".:.", "ab1", "fa9", "aa5", ".ab1:ba2.", "ab1cd2ef3"};
        for (String text : fine) {
            due.is(text, Due.pad(x, text).fault(), RingShadow.NONE);
        }
        String[] more = {"a", "ab", ".a", ":ef", "ab1c", "ab1cd"};
        for (String text : more) {
            due.is(text, Due.pad(x, text).fault(), text.length());
        }
        String[] bad = {"g", "1", "A", "`", ";", "-", "a.", "a:", "ag", "a1", "ab0", "ab.", "ab:", "aba", "ab/", "ab;",
            "ab1g", "ab1cd0", ".!", "abc1"};
        for (String text : bad) {
            due.is(text, Due.pad(x, text).fault(), text.equals("abc1") ? 2 : text.length() - 1);
        }
        due.is("the first of two", Due.pad(x, ".x.y").fault(), 1);
        Due.pad(x, "af1");
        x.lands(5, 2);
        due.is("a land that is gone", x.fault(), 1);
        x.lands(9, 2);
        due.is("a land that is back", x.fault(), RingShadow.NONE);
        due.is("the ninth", Due.pad(x, "ia1").fault(), RingShadow.NONE);
        due.is("a tenth", Due.pad(x, "ja1").fault(), 0);
        due.is("60 signs", Due.pad(x, "ab1ab1ab1ab1ab1ab1ab1ab1ab1ab1ab1ab1ab1ab1ab1ab1ab1ab1ab1..a").fault(), 60);
    }

    private static void images() {
        due.promise(32, "image");
        RingShadow x = new RingShadow();
        due.is("restore(1)", x.restore(1), RingShadow.STATE);
        x.lands(7, 3);
        for (int which = 0; which < 5; which++) {
            x.set(which, 2 + which);
        }
        x.land(6, 0, 11);
        x.land(6, 1, 4);
        x.land(6, 3, 44);
        x.land(6, 2, 33);
        x.seen(6, 8, true);
        Due.pad(x, "..").done();
        Due.say(x, ":");
        String kept = Due.all(x);
        int laws = x.laws(-1);
        int law = x.laws(70);
        due.is("image(1)", x.image(1), 1);
        due.holds("nothing changed", kept.equals(Due.all(x)));
        due.is("restore(0)", x.restore(0), RingShadow.STATE);
        x.lands(3, 1);
        for (int which = 0; which < 5; which++) {
            x.set(which, 9);
        }
        x.land(0, 2, 9);
        x.seen(0, 5, false);
        x.seen(1, 5, false);
        due.is("image(0)", x.image(0), 1);
        due.promise(33, "restore");
        due.is("restore(1)", x.restore(1), 1);
        due.holds("all as it was", kept.equals(Due.all(x)));
        due.is("the sight as it was", x.laws(-1), laws);
        due.is("the sight as it was", x.laws(70), law);
        Due.say(x, "ab");
        due.is("restore(1)", x.restore(1), 1);
        due.is("the pad stays", x.told(0), 3);
        x.land(6, 2, 1);
        due.is("restore(1)", x.restore(1), 1);
        due.is("an image is not the thing", x.told(72), 44);
        due.is("restore(0)", x.restore(0), 1);
        due.is("LANDS", x.told(1), 3);
        due.is("PACE", x.told(3), 9);
        due.is("SIGHTS", x.told(9), 2);
        due.is("STORE", x.told(12), 9);
        x.lands(4, 2);
        due.is("image(0)", x.image(0), 1);
        x.lands(5, 2);
        due.is("restore(0)", x.restore(0), 1);
        due.is("the image is the later one", x.told(1), 4);
    }

    private static void told() {
        due.promise(34, "told");
        RingShadow x = new RingShadow();
        x.lands(9, 4);
        for (int k = 0; k < 9; k++) {
            for (int what = 0; what < 4; what++) {
                x.land(k, what, what == 3 ? 90 + k : 2 * k + what);
            }
        }
        for (int what = 10; what < 100; what++) {
            int k = what / 10 - 1;
            int kind = what % 10;
            int want = kind > 3 ? RingShadow.OUTSIDE : kind == 3 ? 90 + k : 2 * k + kind;
            due.is("told(" + what + ")", x.told(what), want);
        }
        x.lands(2, 1);
        due.is("told(20)", x.told(20), 3);
        due.is("told(30)", x.told(30), RingShadow.OUTSIDE);
        Due.pad(x, ":.").done();
        due.is("told(8)", x.told(8), 11);
        x.seen(0, 0, true);
        x.seen(0, 0, true);
        due.is("told(9)", x.told(9), 2);
        Due.say(x, "!!!");
        due.is("told(0)", x.told(0), 3);
    }
}
