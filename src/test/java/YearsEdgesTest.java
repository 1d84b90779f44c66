/** Promises 8 to 15 at the edges that the document names. */
public final class YearsEdgesTest {
    private static final int UNKNOWN = RingShadow.UNKNOWN, OUTSIDE = RingShadow.OUTSIDE, STATE = RingShadow.STATE;
    private static final int NO = RingShadow.NO, NONE = RingShadow.NONE;
    private static final Scene NEW = Scene.NEW, BUSY = Scene.BUSY;
    private static final Scene FAULTY = Scene.FAULTY, STUCK = Scene.STUCK, STUCK_AND_FAULTY = Scene.STUCK_AND_FAULTY;
    /** Land 4 is covered in all years. */
    private static final Scene NIGHT = Scene.of("lands(9, 8)");
    /** Every land that is covered has a slit. */
    private static final Scene DAY = Scene.of("set(2, 2)", "set(3, 0)", "set(4, 0)");
    private static final Due due = new Due();

    public static void main(String[] args) {
        judge();
        judgeTheFirstAct();
        judgeWhy();
        judgeMost();
        aYear();
        behind();
        behindThen();
        done();
        doneAllOrNothing();
        lit();
        litBySlits();
        wayBack();
        covered();
        lits();
        next();
        nextNever();
        longest();
        longestCutOff();
        due.end("YearsEdgesTest");
    }

    private static void judge() {
        due.promise(8, "judge");
        due.still(NEW, NONE, "judge(0)", "judge(1)");
        due.still(NEW, 0, "judge(2)", "judge(3)");
        for (Scene scene : new Scene[] {NEW, BUSY, FAULTY, STUCK, STUCK_AND_FAULTY}) {
            due.still(scene, OUTSIDE, "judge(-1)", "judge(4)", "judge(MIN)", "judge(MAX)");
        }
        due.still(FAULTY, NO, "judge(0)", "judge(1)", "judge(2)", "judge(3)");
        due.still(STUCK_AND_FAULTY, NO, "judge(0)", "judge(1)", "judge(2)", "judge(3)");
        due.still(NEW.pad("a"), NO, "judge(0)", "judge(3)");
        due.still(NEW.pad(".ab"), NO, "judge(0)", "judge(3)");
        due.still(STUCK, STATE, "judge(2)", "judge(3)");
        due.still(STUCK, 2, "judge(0)");
        due.still(STUCK, 1, "judge(1)");
        due.still(BUSY, NONE, "judge(0)", "judge(1)");
        due.still(BUSY, 1, "judge(2)");
        // there is a FAULT, since the LAND went
        due.still(BUSY.and("lands(3, 1)"), NO, "judge(0)");
    }

    private static void judgeTheFirstAct() {
        due.still(NEW.pad("aa1"), 0, "judge(0)");
        due.still(NEW.pad(".".repeat(57) + "aa1"), 57, "judge(0)");
        due.still(Scene.of("land(0, 2, 50)").pad("ab1ba1".repeat(9) + "ab1aa1"), 19, "judge(0)");
        due.still(NEW.pad(":aa1"), 1, "judge(0)");
        // of two, the first, not the one with the lesser reason
        due.still(NEW.pad(".ab9aa1"), 1, "judge(0)");
        due.still(NEW.pad(".ab9aa1"), 2, "judge(1)");
        due.still(NEW.pad("aa1.ab9"), 0, "judge(0)");
        due.still(NEW.pad("aa1.ab9"), 1, "judge(1)");
    }

    private static void judgeWhy() {
        Scene five = Scene.of("land(0, 2, 5)", "land(1, 3, 7)", "land(1, 2, 4)", "land(2, 3, 0)");
        due.still(five.pad("ab3"), NONE, "judge(0)", "judge(1)");
        due.still(five.pad("ab4"), 3, "judge(1)");
        due.still(five.pad("ab5"), 3, "judge(1)");
        due.still(five.pad("ab6"), 2, "judge(1)");
        due.still(five.pad("ad5"), NONE, "judge(0)", "judge(1)");
        due.still(five.pad("ad6"), 2, "judge(1)");
        due.still(five.pad("ac1"), 3, "judge(1)");
        due.still(five.pad("da1"), 2, "judge(1)");
        // both are one, and it has not so much, or would have too much
        due.still(five.pad("aa9"), 1, "judge(1)");
        due.still(five.pad("bb4"), 1, "judge(1)");
        due.still(five.pad("cc1"), 1, "judge(1)");
        // what was lent is there to be lent, and no more is
        due.still(five.pad("ad5da5"), NONE, "judge(1)");
        due.still(five.pad("ad5ad1"), 2, "judge(1)");
        due.still(five.pad("ab3ab1"), 3, "judge(1)");
    }

    private static void judgeMost() {
        Scene poor = NIGHT.each(9, "land(%d, 0, 0)").each(9, "land(%d, 1, 20)");
        due.still(poor.pad(":".repeat(60)), 600, "judge(2)");
        due.still(poor.pad(":".repeat(60)), 5400, "judge(3)");
        due.still(poor.pad(".".repeat(60)), 60, "judge(2)");
        due.still(poor.pad(".".repeat(60)), 540, "judge(3)");
        due.still(NIGHT.each(9, "land(%d, 1, 0)").pad(":".repeat(60)), 0, "judge(3)");
    }

    private static void aYear() {
        // a LAND that is lit, land 5, in year 0
        int[][] rows = {
            // YIELD, EAT, STORE, CAP; STORE then, hungry
            {3, 3, 0, 50, 0, 0}, {3, 4, 0, 50, 0, 1}, {3, 4, 1, 50, 0, 0}, {3, 5, 1, 50, 0, 1}, {0, 0, 0, 0, 0, 0},
            {5, 2, 1, 4, 4, 0}, {5, 2, 1, 3, 3, 0}, {5, 2, 1, 5, 4, 0}, {20, 20, 0, 0, 0, 0}, {20, 0, 99, 99, 99, 0},
            {20, 19, 98, 99, 99, 0}, {20, 20, 99, 99, 99, 0}, {0, 20, 20, 50, 0, 0}, {0, 20, 19, 50, 0, 1},
            {0, 1, 0, 0, 0, 1}, {20, 5, 0, 10, 10, 0}};
        for (int[] r : rows) {
            Scene lit = Scene.of("land(5, 0, " + r[0] + ")", "land(5, 1, " + r[1] + ")", "land(5, 3, " + r[3] + ")",
                "land(5, 2, " + r[2] + ")").pad(".");
            due.still(lit, r[4], "behind(5, 0)");
            due.still(lit, r[5], "behind(5, 1)");
        }
        // a LAND that is dark, land 0
        Scene dark = Scene.of("land(0, 0, 20)", "land(0, 2, 2)");
        due.still(dark.pad("."), 0, "behind(0, 0)", "behind(0, 1)");
        due.still(dark.and("land(0, 1, 3)").pad("."), 1, "behind(0, 1)");
        due.still(dark.and("land(0, 1, 3)").pad("."), 0, "behind(0, 0)");
        due.still(dark.and("land(0, 1, 1)").pad("."), 1, "behind(0, 0)");
    }

    private static void behind() {
        due.promise(9, "behind");
        due.still(BUSY, UNKNOWN, "behind(-1, 0)", "behind(7, 0)", "behind(MIN, 0)", "behind(MAX, 0)");
        due.still(BUSY, OUTSIDE, "behind(0, -1)", "behind(0, 3)", "behind(6, MIN)", "behind(6, MAX)");
        for (Scene scene : new Scene[] {BUSY, FAULTY, STUCK, STUCK_AND_FAULTY}) {
            due.still(scene, UNKNOWN, "behind(-1, 0)", "behind(7, 3)", "behind(7, -1)");
            due.still(scene, OUTSIDE, "behind(0, -1)", "behind(6, 3)");
        }
        due.still(FAULTY, NO, "behind(0, 0)", "behind(6, 1)", "behind(0, 2)");
        due.still(STUCK_AND_FAULTY, NO, "behind(0, 0)", "behind(6, 1)", "behind(0, 2)");
        due.still(STUCK, STATE, "behind(0, 0)", "behind(6, 1)", "behind(0, 2)");
        due.still(Scene.of("lands(2, 1)"), UNKNOWN, "behind(2, 0)");
        due.still(Scene.of("lands(2, 1)"), 0, "behind(1, 0)");
        due.still(NIGHT, UNKNOWN, "behind(9, 0)");
        due.still(NIGHT, 1, "behind(8, 2)");
    }

    private static void behindThen() {
        // without signs it is as it is
        due.still(NEW, 0, "behind(0, 0)", "behind(0, 1)", "behind(0, 2)", "behind(1, 2)");
        due.still(NEW, 1, "behind(2, 2)", "behind(5, 2)");
        due.still(BUSY.and("wipe()"), 17, "behind(3, 0)");
        // in the year that it is then: a year later land 0 is lit, and 2 is dark
        due.still(NEW.pad("."), 1, "behind(0, 2)");
        due.still(NEW.pad("."), 0, "behind(1, 2)", "behind(2, 2)");
        // ten years later the SHADOW is at 2, on its second way
        due.still(NEW.pad(":"), 0, "behind(2, 2)", "behind(3, 2)");
        due.still(NEW.pad(":"), 1, "behind(1, 2)", "behind(4, 2)");
        // hungry in none, in all of the YEARS
        Scene poor = NEW.each(6, "land(%d, 0, 0)");
        due.still(poor.pad(":".repeat(60)), 600, "behind(0, 1)", "behind(5, 1)");
        due.still(NEW.each(6, "land(%d, 1, 0)").pad(":".repeat(60)), 0, "behind(0, 1)", "behind(5, 1)");
        due.still(NEW.each(6, "land(%d, 1, 0)").pad(":".repeat(60)), 50, "behind(0, 0)", "behind(5, 0)");
        // years that are done already are not counted
        due.still(poor.pad(":").and("done()").pad("."), 1, "behind(0, 1)");
    }

    private static void done() {
        due.promise(10, "done");
        due.still(NEW, 0, "done()");
        due.still(BUSY.and("wipe()"), 0, "done()");
        due.still(FAULTY, NO, "done()");
        due.still(STUCK_AND_FAULTY, NO, "done()");
        due.still(NEW.pad(".a"), NO, "done()");
        due.still(STUCK, STATE, "done()");
        due.answers(BUSY, 2, "done()");
        due.answers(NEW.pad(":".repeat(60)), 60, "done()");
        due.answers(NEW.pad("."), 1, "done()");
        due.answers(Scene.of("land(0, 2, 1)").pad("ab1ba1".repeat(10)), 20, "done()");
        due.still(NEW.pad(":".repeat(60)).and("done()"), 600, "told(8)");
        due.still(BUSY.and("done()"), 12, "told(8)");
        due.still(BUSY.and("done()"), 0, "told(0)", "wipe()", "done()", "judge(2)");
        due.still(BUSY.and("done()"), NONE, "fault()");
        // sights and rules are as they were
        int[] busy = {2, 5, 7, 3, 2};
        for (int which = 0; which < busy.length; which++) {
            due.still(BUSY.and("done()"), busy[which], "told(" + (3 + which) + ")");
        }
        due.still(BUSY.and("done()"), 2, "told(9)");
    }

    private static void doneAllOrNothing() {
        Scene last = Scene.of("land(0, 2, 9)").pad("ab5.:aa1");
        due.still(last, STATE, "done()");
        due.still(last.and("done()"), 9, "told(12)");
        due.still(last.and("done()"), 0, "told(8)", "told(22)");
        due.still(last.and("done()"), 8, "told(0)");
        Scene whole = Scene.of("land(0, 2, 9)").pad("ab5");
        due.still(whole.and("done()"), 4, "told(12)");
        due.still(whole.and("done()"), 5, "told(22)");
        due.still(whole.and("done()"), 0, "told(8)");
        // what is done is what was judged
        for (int k = 0; k < 7; k++) {
            due.is("STORE of " + k, Calls.ask(BUSY.and("done()").make(), "told(" + (12 + 10 * k) + ")"),
                Calls.ask(BUSY.make(), "behind(" + k + ", 0)"));
        }
    }

    private static void lit() {
        due.promise(11, "lit");
        due.still(BUSY, UNKNOWN, "lit(-1, 0)", "lit(7, 0)", "lit(MIN, 0)", "lit(MAX, 0)", "lit(7, -1)", "lit(-1, 100000)");
        due.still(BUSY, OUTSIDE, "lit(0, -1)", "lit(6, 100000)", "lit(0, MIN)", "lit(0, MAX)");
        due.still(NEW, 0, "lit(0, 0)", "lit(1, 0)");
        due.still(NEW, 1, "lit(2, 0)", "lit(5, 0)");
        // 99999 is 7 more than some rounds of 8
        due.still(NEW, 0, "lit(1, 99999)", "lit(2, 99999)");
        due.still(NEW, 1, "lit(0, 99999)", "lit(3, 99999)", "lit(5, 99999)");
        due.still(Scene.of("lands(2, 1)"), UNKNOWN, "lit(2, 0)");
        due.still(Scene.of("lands(2, 1)"), 0, "lit(0, 0)", "lit(1, 1)", "lit(1, 99999)");
        due.still(Scene.of("lands(2, 1)"), 1, "lit(1, 0)", "lit(0, 1)", "lit(0, 99999)");
        due.still(NIGHT, UNKNOWN, "lit(9, 0)");
        due.still(NIGHT, 0, "lit(0, 0)", "lit(7, 0)", "lit(8, 1)", "lit(4, 99999)");
        due.still(NIGHT, 1, "lit(8, 0)", "lit(0, 1)");
        // whatever year it is
        due.still(NEW.pad("...").and("done()"), 0, "lit(0, 0)");
    }

    private static void litBySlits() {
        // lit by a slit, but not beside it, one year later, one LAND further
        Scene seven = NIGHT.and("set(2, 7)", "set(3, 3)", "set(4, 2)");
        due.still(seven, 1, "lit(0, 0)", "lit(4, 2)", "lit(2, 1)", "lit(1, 4)");
        due.still(seven, 0, "lit(4, 1)", "lit(4, 3)", "lit(3, 2)", "lit(5, 2)");
        // the greatest numbers: 19 times the year and the LAND together, by 20
        Scene most = NIGHT.and("set(2, 20)", "set(3, 19)", "set(4, 19)");
        due.still(most, 1, "lit(4, 16)", "lit(4, 99996)", "lit(1, 99999)");
        due.still(most, 0, "lit(4, 15)", "lit(4, 17)", "lit(2, 99999)", "lit(4, 99999)");
        // A of 0: by LANDS alone; B of 0: by years alone
        Scene byLand = NIGHT.and("set(2, 4)", "set(3, 0)");
        due.still(byLand, 1, "lit(4, 0)", "lit(4, 1)", "lit(4, 99999)", "lit(0, 0)");
        due.still(byLand, 0, "lit(3, 0)", "lit(5, 1)", "lit(6, 99999)");
        Scene byYear = NIGHT.and("set(2, 3)", "set(4, 0)");
        due.still(byYear, 1, "lit(4, 0)", "lit(5, 3)", "lit(4, 99999)");
        due.still(byYear, 0, "lit(4, 1)", "lit(5, 2)", "lit(4, 99998)");
        // the year itself, without AGE
        due.still(byYear.and("set(1, 1)"), 1, "lit(4, 0)", "lit(4, 3)");
        due.still(byYear.and("set(1, 1)"), 0, "lit(4, 2)");
        due.still(DAY, 1, "lit(0, 0)", "lit(1, 0)", "lit(2, 0)", "lit(1, 99999)");
    }

    /** The SHADOW goes down to the line and back, for all LANDS, widths and paces; told step by step. */
    private static void wayBack() {
        for (int n = 2; n <= 9; n++) {
            for (int w = 1; w < n; w++) {
                for (int pace = 1; pace <= 9; pace++) {
                    goThereAndBack(n, w, pace, 0);
                    goThereAndBack(n, w, pace, 1);
                    goThereAndBack(n, w, pace, 99);
                }
            }
        }
    }

    private static void goThereAndBack(int n, int w, int pace, int age) {
        RingShadow x = new RingShadow();
        x.lands(n, w);
        x.set(0, pace);
        x.set(1, age);
        int place = 0;
        boolean down = true;
        for (int gone = 0; gone < age + 45; gone++) {
            if (gone > 0 && gone % pace == 0) {
                down = place == 0 || down && place + w < n;
                place += down ? 1 : -1;
            }
            if (gone >= age) {
                String when = n + " LANDS, " + w + " wide, PACE " + pace + ", AGE " + age + ", year " + (gone - age);
                due.is(when, x.covered(gone - age), place);
                for (int k = 0; k < n; k++) {
                    due.is(when + ", land " + k, x.lit(k, gone - age), k >= place && k < place + w ? 0 : 1);
                }
            }
        }
    }

    private static void covered() {
        due.promise(12, "covered");
        due.still(BUSY, OUTSIDE, "covered(-1)", "covered(100000)", "covered(MIN)", "covered(MAX)");
        // at the line, and on the way back, and in the north again
        due.still(NEW, 4, "covered(4)", "covered(12)");
        due.still(NEW, 3, "covered(3)", "covered(5)");
        due.still(NEW, 1, "covered(1)", "covered(7)", "covered(9)", "covered(99999)");
        due.still(NEW, 0, "covered(0)", "covered(8)");
        // steps are cut
        Scene slow = Scene.of("set(0, 9)");
        due.still(slow, 0, "covered(0)", "covered(8)");
        due.still(slow, 1, "covered(9)", "covered(17)");
        due.still(slow.and("set(1, 1)"), 1, "covered(8)", "covered(16)");
        // t and AGE together, not one by one
        due.still(slow.and("set(1, 99)"), 3, "covered(0)", "covered(8)");
        due.still(slow.and("set(1, 95)"), 2, "covered(0)", "covered(3)");
        due.still(slow.and("set(1, 95)"), 3, "covered(4)");
        // 100098 by 9 is 11122 steps, 2 more than some rounds of 8
        due.still(slow.and("set(1, 99)"), 2, "covered(99999)");
        due.still(Scene.of("lands(2, 1)"), 1, "covered(1)", "covered(99999)");
        due.still(NIGHT, 1, "covered(1)", "covered(99999)");
        due.still(NIGHT, 0, "covered(0)", "covered(2)");
        due.still(Scene.of("lands(9, 1)"), 8, "covered(8)", "covered(24)");
        due.still(Scene.of("lands(9, 1)"), 7, "covered(7)", "covered(9)");
        // lit by a slit or not
        due.still(DAY, 4, "covered(4)");
    }

    private static void lits() {
        due.promise(13, "lits");
        due.still(BUSY, UNKNOWN, "lits(-1, 0, 1)", "lits(7, 0, 1)", "lits(MIN, 0, 1)", "lits(MAX, -1, -1)",
            "lits(7, 0, 100001)");
        due.still(BUSY, OUTSIDE, "lits(0, -1, 1)", "lits(0, 100000, 1)", "lits(0, MIN, 1)", "lits(0, MAX, 1)");
        due.still(BUSY, OUTSIDE, "lits(6, 0, -1)", "lits(6, 0, 100001)", "lits(0, 0, MIN)", "lits(0, 0, MAX)");
        due.still(NEW, 0, "lits(0, 0, 0)", "lits(5, 0, 0)", "lits(5, 99999, 0)", "lits(0, 0, 1)");
        due.still(NEW, 1, "lits(0, 1, 1)", "lits(5, 0, 1)", "lits(0, 99999, 1)", "lits(0, 99999, 2)");
        // land 0 is dark in each eighth year
        due.still(NEW, 7, "lits(0, 0, 8)", "lits(0, 1, 7)", "lits(0, 1, 8)", "lits(0, 7, 8)");
        due.still(NEW, 87500, "lits(0, 0, 100000)", "lits(0, 99999, 100000)");
        due.still(NEW, 87499, "lits(0, 0, 99999)");
        due.still(NIGHT, 0, "lits(4, 0, 100000)", "lits(4, 99999, 100000)");
        due.still(NIGHT, 50000, "lits(0, 0, 100000)", "lits(8, 99999, 100000)");
        due.still(DAY, 100000, "lits(0, 0, 100000)", "lits(1, 99999, 100000)");
        // a period of 144 and one of 19 years
        Scene rare = Scene.of("lands(9, 1)", "set(0, 9)", "set(2, 19)", "set(4, 0)");
        due.still(rare, 2736 - 19 * 9 + 9, "lits(0, 0, 2736)", "lits(0, 5, 2736)", "lits(8, 99999, 2736)");
    }

    private static void next() {
        due.promise(14, "next");
        for (String is : new String[] {"true)", "false)"}) {
            due.still(BUSY, UNKNOWN, "next(-1, 0, " + is, "next(7, 0, " + is, "next(MIN, 0, " + is, "next(MAX, -1, " + is);
            due.still(BUSY, OUTSIDE, "next(0, -1, " + is, "next(6, 100000, " + is, "next(0, MIN, " + is,
                "next(0, MAX, " + is);
        }
        // from t on: t itself too
        due.still(NEW, 0, "next(0, 0, false)", "next(5, 0, true)");
        due.still(NEW, 1, "next(0, 0, true)", "next(0, 1, true)");
        due.still(NEW, 8, "next(0, 1, false)", "next(0, 8, false)");
        due.still(NEW, 9, "next(0, 8, true)");
        due.still(NEW, 99999, "next(0, 99999, true)", "next(1, 99999, false)");
        due.still(NEW, 100000, "next(0, 99999, false)");
        due.still(NEW, 100002, "next(1, 99999, true)");
        // as long as it can be dark, or lit
        Scene slow = Scene.of("lands(9, 1)", "set(0, 9)");
        due.still(slow, 9, "next(0, 0, true)");
        due.still(slow, 144, "next(0, 9, false)");
        due.still(slow, 216, "next(8, 81, false)");
        // covered at 8, 24 and 40, but at 24 by a slit
        due.still(Scene.of("lands(9, 1)", "set(2, 3)", "set(4, 0)"), 40, "next(8, 9, false)");
        due.still(NIGHT.and("set(2, 20)", "set(4, 0)"), 20, "next(4, 1, true)", "next(4, 20, true)");
    }

    private static void nextNever() {
        due.still(NIGHT, NONE, "next(1, 0, true)", "next(7, 99999, true)");
        due.still(NIGHT, 0, "next(8, 0, true)");
        due.still(DAY, NONE, "next(0, 0, false)", "next(5, 99999, false)");
        // land 8 is covered in years of 8 and some 16, and each of them has a slit
        Scene even = Scene.of("lands(9, 1)", "set(2, 2)", "set(4, 0)");
        due.still(even, NONE, "next(8, 0, false)", "next(0, 99999, false)");
        due.still(even, 1, "next(1, 0, false)");
    }

    private static void longest() {
        due.promise(15, "longest");
        due.still(BUSY, UNKNOWN, "longest(-1, 0, 1)", "longest(7, 0, 1)", "longest(MIN, 0, 1)", "longest(MAX, -1, -1)",
            "longest(7, 0, 10000)");
        due.still(BUSY, OUTSIDE, "longest(0, -1, 1)", "longest(0, 100000, 1)", "longest(0, MIN, 1)", "longest(0, MAX, 1)");
        due.still(BUSY, OUTSIDE, "longest(6, 0, -1)", "longest(6, 0, 10000)", "longest(0, 0, MIN)", "longest(0, 0, MAX)");
        due.still(NEW, 0, "longest(0, 0, 0)", "longest(1, 99999, 0)", "longest(5, 0, 1)", "longest(5, 0, 4)");
        due.still(NEW, 1, "longest(0, 0, 1)", "longest(0, 0, 9999)", "longest(5, 0, 5)", "longest(5, 99999, 9999)");
        due.still(NIGHT, 9999, "longest(4, 0, 9999)", "longest(4, 99999, 9999)");
        due.still(NIGHT, 1, "longest(4, 0, 1)", "longest(0, 0, 9999)");
        due.still(NIGHT, 300, "longest(4, 7, 300)");
        due.still(DAY, 0, "longest(0, 0, 9999)");
        due.still(NIGHT.and("set(2, 20)", "set(4, 0)"), 19, "longest(4, 0, 9999)");
    }

    private static void longestCutOff() {
        // land 1 is dark in year 7, 8, 9, and in 15, 16, 17
        due.still(NEW, 3, "longest(1, 7, 3)", "longest(1, 0, 10)", "longest(1, 9, 9)");
        due.still(NEW, 2, "longest(1, 7, 2)", "longest(1, 8, 2)", "longest(1, 0, 9)", "longest(1, 9, 8)", "longest(1, 8, 9)");
        due.still(NEW, 1, "longest(1, 9, 7)", "longest(1, 2, 6)");
        due.still(NEW, 0, "longest(1, 2, 5)", "longest(1, 10, 5)");
    }
}
