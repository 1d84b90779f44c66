/** Promises 8 to 15: years told and done, and what light is where. */
public final class YearsTest {
    private static final Due due = new Due();

    public static void main(String[] args) {
        judge();
        whyNot();
        judgeRefused();
        behind();
        done();
        lit();
        slits();
        covered();
        lits();
        next();
        longest();
        due.end("YearsTest");
    }

    private static void judge() {
        due.promise(8, "judge");
        RingShadow x = new RingShadow();
        int[] empty = {RingShadow.NONE, RingShadow.NONE, 0, 0};
        for (int what = 0; what < 4; what++) {
            due.is("no signs, judge(" + what + ")", x.judge(what), empty[what]);
        }
        Due.pad(x, "..");
        // year 0: lands 0 and 1 are dark and have 0; year 1: 1 has 0, 2 has 1
        int[] two = {RingShadow.NONE, RingShadow.NONE, 2, 4};
        for (int what = 0; what < 4; what++) {
            due.is(".., judge(" + what + ")", x.judge(what), two[what]);
        }
        due.is("nothing is done", x.told(8), 0);
        due.is("nothing is eaten", x.told(42), 0);
        due.is(":..: has years", Due.pad(x, ":..:").judge(2), 22);
        int tens = Due.pad(x, ":").judge(3);
        due.is("ten years one by one", Due.pad(x, "..........").judge(3), tens);
        due.is("60 times ten", Due.pad(x, ":".repeat(60)).judge(2), 600);
        x.land(2, 1, 0);
        due.is("who eats nothing is never hungry", Due.pad(x, "..").judge(3), 3);
        x.land(0, 2, 2);
        due.is("who has just enough is not hungry", Due.pad(x, "..").judge(3), 2);
        x.land(0, 2, 1);
        due.is("who has one less is", Due.pad(x, "..").judge(3), 3);
        x.land(2, 1, 2);
        due.is("who eats again is hungry", Due.pad(x, "..").judge(3), 4);
        due.is("who is lent to is not", Due.pad(x, ".fc1.").judge(3), 3);
    }

    private static void whyNot() {
        RingShadow x = new RingShadow();
        x.land(0, 2, 5);
        x.land(1, 3, 4);
        Object[][] rows = {{"ab4", RingShadow.NONE, RingShadow.NONE}, {"ab5", 0, 3}, {"ab6", 0, 2}, {"aa1", 0, 1},
            {"aa9", 0, 1}, {"bb9", 0, 1}, {"ab9", 0, 2}, {"ac5ca5", RingShadow.NONE, RingShadow.NONE},
            {"ac5ac1", 1, 2}, {"ab4ab1", 1, 3}, {"..ff1.aa1", 2, 1}};
        for (Object[] row : rows) {
            String text = (String) row[0];
            Due.pad(x, text);
            due.is(text + ", the act", x.judge(0), (Integer) row[1]);
            due.is(text + ", why", x.judge(1), (Integer) row[2]);
        }
        Due.pad(x, ":ab9.");
        due.is("ten years are one act", x.judge(0), 1);
        due.is("what came behind is not judged", Due.pad(x, "aa1ab9").judge(1), 1);
    }

    private static void judgeRefused() {
        RingShadow x = new RingShadow();
        Due.pad(x, "aa1");
        due.is("judge(2)", x.judge(2), RingShadow.STATE);
        due.is("judge(3)", x.judge(3), RingShadow.STATE);
        Due.pad(x, "aa1x");
        for (int what = 0; what < 4; what++) {
            due.is("with a fault", x.judge(what), RingShadow.NO);
        }
        due.is("more must come", Due.pad(x, ".a").judge(0), RingShadow.NO);
    }

    private static void behind() {
        due.promise(9, "behind");
        RingShadow x = new RingShadow();
        Due.pad(x, "..");
        int[] stores = {1, 0, 0, 2, 2, 2};
        int[] hungry = {1, 2, 1, 0, 0, 0};
        int[] lit = {1, 1, 0, 0, 1, 1};
        for (int k = 0; k < 6; k++) {
            due.is("STORE of " + k, x.behind(k, 0), stores[k]);
            due.is("hungry of " + k, x.behind(k, 1), hungry[k]);
            due.is("lit of " + k, x.behind(k, 2), lit[k]);
        }
        due.is("lent", Due.pad(x, "..fa2").behind(0, 0), 3);
        due.is("lends", x.behind(5, 0), 0);
        x.land(5, 3, 1);
        due.is("above CAP is lost", Due.pad(x, "..").behind(5, 0), 1);
        x.land(5, 3, 0);
        x.land(5, 0, 20);
        x.land(5, 1, 20);
        due.is("CAP counts behind the meal", Due.pad(x, "..").behind(5, 1), 0);
        due.is("with a fault", Due.pad(x, "x").behind(0, 0), RingShadow.NO);
        due.is("an act that can not be", Due.pad(x, "aa1").behind(0, 2), RingShadow.STATE);
        due.is("no signs", Due.pad(x, "").behind(0, 2), 0);
    }

    private static void done() {
        due.promise(10, "done");
        RingShadow x = new RingShadow();
        due.is("no signs", x.done(), 0);
        String before = Due.all(Due.pad(x, ".aa1"));
        due.is("an act that can not be", x.done(), RingShadow.STATE);
        due.holds("nothing changed", before.equals(Due.all(x)));
        before = Due.all(Due.pad(x, ".a"));
        due.is("with a fault", x.done(), RingShadow.NO);
        due.holds("nothing changed", before.equals(Due.all(x)));
        x.seen(0, 0, true);
        due.is("three acts", Due.pad(x, "..fa2").done(), 3);
        int[] stores = {3, 0, 0, 2, 2, 0};
        for (int k = 0; k < 6; k++) {
            due.is("STORE of " + k, x.told(10 * (1 + k) + 2), stores[k]);
        }
        due.is("the year", x.told(8), 2);
        due.is("signs", x.told(0), 0);
        due.is("sights stay", x.told(9), 1);
        Due.pad(x, ".");
        // year 2: lands 2 and 3 are dark
        due.is("from year 2 on", x.behind(2, 1), 1);
        due.is("from year 2 on", x.behind(3, 0), 0);
        due.is("ten years are one act", Due.pad(x, ":").done(), 1);
        due.is("the year", x.told(8), 12);
        due.is("sixty acts", Due.pad(x, ":".repeat(60)).done(), 60);
        due.is("the year", x.told(8), 612);
    }

    private static void lit() {
        due.promise(11, "lit");
        RingShadow x = new RingShadow();
        int[] first = {0, 1, 2, 3, 4, 3, 2, 1, 0, 1};
        for (int t = 0; t < first.length; t++) {
            for (int k = 0; k < 6; k++) {
                due.is("lit(" + k + ", " + t + ")", x.lit(k, t), k == first[t] || k == first[t] + 1 ? 0 : 1);
            }
        }
        int[] last = {1, 0, 0, 1, 1, 1};
        for (int k = 0; k < 6; k++) {
            due.is("in year 99999", x.lit(k, 99999), last[k]);
        }
        Due.pad(x, "...").done();
        due.is("whatever year it is", x.lit(0, 0), 0);
    }

    private static void slits() {
        RingShadow x = new RingShadow();
        x.set(2, 2);
        x.set(4, 0);
        x.set(1, 1);
        // by the year alone, AGE apart: even years are lit
        due.is("year 0", x.lit(1, 0), 1);
        due.is("year 1", x.lit(2, 1), 0);
        due.is("year 2", x.lit(3, 2), 1);
        x.set(2, 3);
        x.set(3, 0);
        x.set(4, 1);
        // by the land alone: 0 and 3 are lit
        due.is("land 3", x.lit(3, 1), 1);
        due.is("land 2", x.lit(2, 1), 0);
        x.set(2, 5);
        x.set(3, 2);
        x.set(4, 3);
        // covered in year 2: 3, 4; 2 * 2 and 3 * 3 is 13, 2 * 2 and 4 * 3 is 16; in year 3: 4, 5, so 18, 21
        due.is("land 3, year 2", x.lit(3, 2), 0);
        due.is("land 4, year 2", x.lit(4, 2), 0);
        x.set(2, 13);
        due.is("land 3, year 2", x.lit(3, 2), 1);
        x.set(2, 9);
        due.is("land 4, year 3", x.lit(4, 3), 1);
        due.is("land 5, year 3", x.lit(5, 3), 0);
        due.is("not covered", x.lit(0, 3), 1);
    }

    private static void covered() {
        due.promise(12, "covered");
        RingShadow x = new RingShadow();
        int[] first = {0, 1, 2, 3, 4, 3, 2, 1, 0, 1};
        for (int t = 0; t < first.length; t++) {
            due.is("covered(" + t + ")", x.covered(t), first[t]);
        }
        x.set(2, 2);
        x.set(3, 0);
        x.set(4, 0);
        due.is("slits or not", x.covered(3), 3);
        x.set(0, 3);
        x.set(1, 5);
        for (int t = 0; t < 40; t++) {
            due.is("by 3, covered(" + t + ")", x.covered(t), first[(t + 5) / 3 % 8]);
        }
        due.is("covered(99999)", x.covered(99999), first[33334 % 8]);
        x.lands(9, 8);
        due.is("covered(0)", x.covered(0), 1);
        due.is("covered(1)", x.covered(1), 0);
    }

    private static void lits() {
        due.promise(13, "lits");
        RingShadow x = new RingShadow();
        due.is("lits(2, 0, 0)", x.lits(2, 0, 0), 0);
        due.is("lits(2, 0, 1)", x.lits(2, 0, 1), 1);
        due.is("lits(2, 0, 8)", x.lits(2, 0, 8), 4);
        due.is("lits(0, 3, 5)", x.lits(0, 3, 5), 5);
        due.is("lits(0, 3, 6)", x.lits(0, 3, 6), 5);
        due.is("lits(2, 0, 100000)", x.lits(2, 0, 100000), 50000);
        due.is("lits(2, 99999, 100000)", x.lits(2, 99999, 100000), 50000);
        x.set(2, 20);
        x.set(3, 0);
        x.set(4, 0);
        due.is("always lit", x.lits(2, 1, 77777), 77777);
        x.lands(9, 8);
        x.set(2, 0);
        due.is("never lit", x.lits(4, 1, 77777), 0);
    }

    private static void next() {
        due.promise(14, "next");
        RingShadow x = new RingShadow();
        due.is("dark at once", x.next(0, 0, false), 0);
        due.is("dark again", x.next(0, 1, false), 8);
        due.is("lit", x.next(1, 0, true), 2);
        due.is("lit at once", x.next(5, 0, true), 0);
        due.is("beyond the last year that may be asked for", x.next(2, 99999, true), 100000);
        x.set(0, 9);
        due.is("a slow one", x.next(0, 9, false), 72);
        x.set(2, 2);
        x.set(3, 0);
        x.set(4, 0);
        due.is("never dark", x.next(0, 0, false), RingShadow.NONE);
        x.set(2, 0);
        x.lands(9, 8);
        due.is("never lit", x.next(1, 50, true), RingShadow.NONE);
        due.is("lit at the end", x.next(8, 0, true), 0);
        x.set(2, 19);
        x.set(3, 1);
        due.is("lit by a slit", x.next(4, 1, true), 19);
    }

    private static void longest() {
        due.promise(15, "longest");
        RingShadow x = new RingShadow();
        due.is("longest(1, 0, 0)", x.longest(1, 0, 0), 0);
        due.is("longest(1, 0, 1)", x.longest(1, 0, 1), 1);
        due.is("longest(1, 0, 9)", x.longest(1, 0, 9), 2);
        due.is("longest(1, 0, 10)", x.longest(1, 0, 10), 3);
        due.is("longest(1, 0, 9999)", x.longest(1, 0, 9999), 3);
        due.is("longest(1, 2, 5)", x.longest(1, 2, 5), 0);
        due.is("longest(5, 99999, 9999)", x.longest(5, 99999, 9999), 1);
        x.lands(9, 8);
        due.is("always dark", x.longest(4, 5, 9999), 9999);
        due.is("always dark", x.longest(4, 5, 3), 3);
        x.set(2, 20);
        x.set(4, 0);
        due.is("but for slits", x.longest(4, 5, 9999), 19);
        x.set(0, 9);
        x.set(2, 0);
        due.is("nine years", x.longest(0, 0, 9999), 9);
    }
}
