/** Promises 22 to 31 at the edges that the document names. */
public final class WalksEdgesTest {
    private static final int UNKNOWN = RingShadow.UNKNOWN, OUTSIDE = RingShadow.OUTSIDE, FULL = RingShadow.FULL;
    private static final int NONE = RingShadow.NONE;
    private static final long NO_LAND = -1000000000000000001L, NO_NUMBER = -1000000000000000002L;
    private static final Scene NEW = Scene.NEW, BUSY = Scene.BUSY;
    private static final Scene TWO = Scene.of("lands(2, 1)");
    /** Land 4 is covered in all years; the shadow goes a step in nine. */
    private static final Scene NIGHT = Scene.of("lands(9, 8)", "set(0, 9)");
    /** Every land that is covered has a slit. */
    private static final Scene DAY = Scene.of("set(2, 2)", "set(3, 0)", "set(4, 0)");
    private static final Due due = new Due();

    public static void main(String[] args) {
        ways();
        waysRefused();
        where();
        whereRefused();
        meet();
        seen();
        seenWhenFull();
        forget();
        laws();
        lawsByAge();
        lawsBySights();
        look();
        dust();
        dustInLowestTerms();
        dustRefused();
        rent();
        rentAhead();
        rentRefused();
        age();
        ageLends();
        ageRefused();
        due.end("WalksEdgesTest");
    }

    private static void ways() {
        due.promise(22, "ways");
        due.still(NEW, 1, "ways(0, 0, 0, 0)", "ways(1, 1, 0, 0)", "ways(1, 1, 99999, 0)");
        // lit where he stands, or where he would be: even for no year
        due.still(NEW, 0, "ways(2, 2, 0, 0)", "ways(5, 5, 0, 0)", "ways(0, 1, 0, 0)", "ways(2, 1, 0, 1)", "ways(0, 0, 0, 1)");
        // to a LAND beside it, or stays
        due.still(NIGHT, 1, "ways(4, 3, 0, 1)", "ways(4, 4, 0, 1)", "ways(4, 5, 0, 1)");
        due.still(NIGHT, 0, "ways(4, 2, 0, 1)", "ways(4, 6, 0, 1)", "ways(7, 0, 0, 1)");
        // not beyond the first LAND and the last
        due.still(NIGHT, 2, "ways(0, 0, 0, 2)", "ways(7, 7, 0, 2)", "ways(8, 8, 9, 2)");
        due.still(NIGHT, 3, "ways(4, 4, 0, 2)");
        // 30 years, all along the one dark LAND; 99999 is not the last of them
        due.still(TWO, 1, "ways(0, 0, 0, 30)", "ways(0, 1, 0, 29)", "ways(1, 1, 99999, 30)");
        due.still(TWO, 0, "ways(0, 1, 0, 30)", "ways(1, 1, 0, 30)");
        due.still(NIGHT, 12491519907814L, "ways(4, 4, 0, 30)");
        due.still(DAY, 0, "ways(0, 0, 0, 0)", "ways(0, 1, 0, 1)");
    }

    private static void waysRefused() {
        due.still(BUSY, NO_LAND, "ways(-1, 0, 0, 0)", "ways(7, 0, 0, 0)", "ways(MIN, 0, 0, 0)", "ways(MAX, 0, 0, 0)");
        due.still(BUSY, NO_LAND, "ways(0, -1, 0, 0)", "ways(0, 7, 0, 0)", "ways(0, MIN, 0, 0)", "ways(0, MAX, 0, 0)");
        due.still(BUSY, NO_LAND, "ways(7, 7, -1, -1)", "ways(0, 7, 100000, 0)", "ways(7, 0, 0, 31)");
        due.still(BUSY, NO_NUMBER, "ways(0, 6, -1, 0)", "ways(6, 0, 100000, 0)", "ways(0, 0, MIN, 0)", "ways(0, 0, MAX, 0)");
        due.still(BUSY, NO_NUMBER, "ways(0, 6, 0, -1)", "ways(6, 0, 0, 31)", "ways(0, 0, 0, MIN)", "ways(0, 0, 0, MAX)");
    }

    private static void where() {
        due.promise(23, "where");
        due.still(NEW, 1, "where(0, 0, 0)");
        due.still(NEW, 2, "where(1, 0, 0)", "where(0, 0, 1)", "where(1, 99999, 0)");
        due.still(NEW, 0, "where(2, 0, 0)", "where(2, 0, 1)", "where(5, 0, 30)");
        due.still(NEW, 6, "where(1, 0, 1)");
        // not beyond the first LAND and the last
        due.still(NIGHT, 3, "where(0, 0, 1)");
        due.still(NIGHT, 192, "where(7, 0, 1)");
        due.still(NIGHT, 256, "where(8, 9, 0)");
        due.still(NIGHT, 384, "where(8, 9, 1)");
        // year 30 by 9: three steps, so it covers all but the first LAND
        due.still(NIGHT, 510, "where(0, 0, 30)");
        due.still(NIGHT, 255, "where(0, 0, 8)");
        due.still(TWO, 1, "where(0, 0, 30)");
        due.still(TWO, 2, "where(0, 0, 29)", "where(1, 99999, 30)");
        due.still(DAY, 0, "where(0, 0, 0)");
    }

    private static void whereRefused() {
        due.still(BUSY, UNKNOWN, "where(-1, 0, 0)", "where(7, 0, 0)", "where(MIN, 0, 0)", "where(MAX, -1, 31)", "where(7, -1, 0)");
        due.still(BUSY, OUTSIDE, "where(0, -1, 0)", "where(6, 100000, 0)", "where(0, MIN, 0)", "where(0, MAX, 0)");
        due.still(BUSY, OUTSIDE, "where(0, 0, -1)", "where(6, 0, 31)", "where(0, 0, MIN)", "where(0, 0, MAX)");
    }

    private static void meet() {
        due.promise(24, "meet");
        due.still(BUSY, UNKNOWN, "meet(-1, 0, 0)", "meet(7, 0, 0)", "meet(MIN, 0, 0)", "meet(MAX, 0, 0)");
        due.still(BUSY, UNKNOWN, "meet(0, -1, 0)", "meet(0, 7, 0)", "meet(0, MIN, 0)", "meet(0, MAX, 0)");
        due.still(BUSY, UNKNOWN, "meet(7, 7, 0)", "meet(7, 0, -1)", "meet(0, 7, 100000)");
        due.still(BUSY, OUTSIDE, "meet(0, 6, -1)", "meet(6, 0, 100000)", "meet(0, 0, MIN)", "meet(0, 0, MAX)");
        // at once, if both are in one LAND, and it is dark there
        due.still(NEW, 0, "meet(0, 0, 0)", "meet(1, 1, 0)");
        due.still(NEW, NONE, "meet(2, 2, 0)", "meet(0, 2, 0)", "meet(2, 0, 0)", "meet(5, 5, 0)");
        due.still(NEW, 1, "meet(0, 1, 0)", "meet(1, 0, 0)");
        due.still(NEW, 99999, "meet(2, 2, 99999)");
        due.still(NEW, 100000, "meet(1, 2, 99999)");
        due.still(NIGHT, 4, "meet(0, 7, 0)", "meet(7, 0, 0)");
        due.still(NIGHT, 3, "meet(0, 6, 0)", "meet(1, 7, 0)");
        // never, though both can walk on: land 4 is always lit
        due.still(NIGHT.and("set(2, 4)", "set(3, 0)"), NONE, "meet(3, 5, 0)");
        // of all shadows none keeps two, who can meet, apart for longer than six years (all were tried)
        Scene apart = Scene.of("lands(8, 7)", "set(0, 2)", "set(1, 3)", "set(2, 4)", "set(3, 1)", "set(4, 2)");
        due.still(apart, 7, "meet(0, 6, 1)", "meet(6, 0, 1)");
    }

    private static void seen() {
        due.promise(25, "seen");
        due.answers(NEW, 1, "seen(0, 0, true)", "seen(5, 9999, false)", "seen(0, 9999, true)");
        due.answers(BUSY, 3, "seen(6, 0, true)", "seen(0, 9999, false)");
        due.still(BUSY, UNKNOWN, "seen(-1, 0, true)", "seen(7, 0, true)", "seen(MIN, 0, false)", "seen(MAX, -1, true)",
            "seen(7, 10000, true)");
        due.still(BUSY, OUTSIDE, "seen(0, -1, true)", "seen(6, 10000, true)", "seen(0, MIN, false)", "seen(0, MAX, true)",
            "seen(0, 99999, true)");
        // the same sight is one more
        due.answers(NEW.and("seen(0, 0, true)"), 2, "seen(0, 0, true)");
        // what is so in fact does not matter
        due.still(NEW.and("seen(5, 0, true)"), 1, "told(9)");
    }

    private static void seenWhenFull() {
        Scene seven = BUSY.and("seen(1, 3, false)", "seen(1, 4, false)", "seen(1, 3, false)", "seen(1, 3, false)",
            "seen(1, 3, false)");
        Scene eight = seven.and("seen(6, 9999, true)");
        due.answers(seven, 8, "seen(0, 0, true)");
        due.still(eight, FULL, "seen(0, 0, true)", "seen(6, 9999, false)");
        due.still(eight, UNKNOWN, "seen(7, 0, true)", "seen(-1, 10000, true)");
        due.still(eight, OUTSIDE, "seen(0, 10000, true)", "seen(0, -1, true)");
        due.answers(eight.and("forget()"), 1, "seen(0, 0, true)");
        due.answers(eight.and("lands(6, 2)"), 1, "seen(0, 0, true)");
    }

    private static void forget() {
        due.promise(26, "forget");
        due.still(NEW, 0, "forget()");
        due.answers(BUSY, 2, "forget()");
        due.answers(NEW.each(6, "seen(%d, 1, true)").and("seen(0, 2, true)", "seen(0, 3, true)"), 8, "forget()");
        due.still(BUSY.and("forget()"), 0, "forget()", "told(9)");
        due.still(TWO.and("seen(0, 0, true)", "forget()"), 90, "laws(-1)");
        due.still(BUSY.and("forget()"), 11, "told(8)");
        due.still(BUSY.and("forget()"), 4, "told(0)");
        // sights of before are not there again
        due.still(TWO.and("seen(0, 0, true)", "seen(0, 0, false)", "forget()", "seen(0, 0, true)"), 45, "laws(-1)");
    }

    private static void laws() {
        due.promise(27, "laws");
        due.still(BUSY, NONE, "laws(-2)", "laws(MIN)", "laws(MAX)", "laws(1000000)");
        due.still(TWO, 90, "laws(-1)");
        due.still(TWO, 1100, "laws(0)");
        due.still(TWO, 1917, "laws(89)");
        due.still(TWO, NONE, "laws(90)", "laws(-2)", "laws(MIN)", "laws(MAX)");
        Scene none = TWO.and("seen(0, 0, true)", "seen(0, 0, false)");
        due.still(none, 0, "laws(-1)");
        due.still(none, NONE, "laws(0)", "laws(1)", "laws(-2)");
        // covered in years 0, 1, 2, 4, 8, and not in 9: PACE 9, AGE 0 alone
        Scene one = TWO.each(3, "seen(0, %d, true)").and("seen(0, 4, true)", "seen(0, 8, true)", "seen(0, 9, false)");
        due.still(one, 1, "laws(-1)");
        due.still(one, 1900, "laws(0)");
        due.still(one, NONE, "laws(1)");
    }

    private static void lawsByAge() {
        Scene nine = Scene.of("lands(9, 4)");
        due.still(nine, 3110, "laws(-1)");
        // less than 16 times PACE
        due.still(nine, 1100, "laws(0)");
        due.still(nine, 1115, "laws(15)");
        due.still(nine, 1200, "laws(16)");
        due.still(nine, 1695, "laws(335)");
        // and less than 100
        due.still(nine, 1700, "laws(336)");
        due.still(nine, 1799, "laws(435)");
        due.still(nine, 1800, "laws(436)");
        due.still(nine, 1999, "laws(635)");
        // the next width; the last one, 8
        due.still(nine, 2100, "laws(636)");
        due.still(nine, 8100, "laws(3020)");
        due.still(nine, 8101, "laws(3021)");
        due.still(nine, 8200, "laws(3022)");
        due.still(nine, 8917, "laws(3109)");
        due.still(nine, NONE, "laws(3110)");
        // rising, by what is told
        RingShadow x = Scene.of("lands(7, 1)", "seen(2, 50, true)", "seen(6, 9999, false)").make();
        int before = 0;
        for (int i = 0; i < 400; i++) {
            int law = x.laws(i);
            due.holds("rising at " + i, law > before);
            before = law;
        }
    }

    private static void lawsBySights() {
        due.still(TWO.and("seen(0, 0, true)"), 45, "laws(-1)");
        due.still(TWO.and("seen(0, 0, false)"), 45, "laws(-1)");
        due.still(TWO.and("seen(1, 9999, true)"), 45, "laws(-1)");
        // all eight count, a ninth that is refused does not
        Scene seven = TWO.each(7, "seen(0, 0, true)");
        due.still(seven, 45, "laws(-1)");
        due.still(seven.and("seen(0, 1, true)"), 36, "laws(-1)");
        due.still(seven.and("seen(0, 1, true)", "seen(0, 0, false)"), 36, "laws(-1)");
        // the shadow that there is, its slits, the year it is: none counts
        due.still(TWO.and("set(0, 5)", "set(1, 7)", "set(2, 2)", "set(3, 0)", "set(4, 0)", "seen(0, 0, true)")
            .pad(":").and("done()"), 45, "laws(-1)");
    }

    private static void look() {
        due.promise(28, "look");
        due.still(BUSY, OUTSIDE, "look(-1, 0)", "look(100000, 0)", "look(MIN, 1)", "look(MAX, 1)");
        due.still(BUSY, OUTSIDE, "look(0, -1)", "look(0, 2)", "look(99999, MIN)", "look(0, MAX)", "look(-1, 2)");
        Scene none = TWO.and("seen(0, 0, true)", "seen(0, 0, false)");
        due.still(none, NONE, "look(0, 0)", "look(0, 1)", "look(99999, 0)");
        due.still(none, OUTSIDE, "look(-1, 0)", "look(100000, 1)", "look(0, 2)");
        // of LANDS that tell as much the least
        due.still(TWO, 0, "look(0, 0)", "look(99999, 0)");
        due.still(TWO, 45, "look(0, 1)", "look(99999, 1)");
        Scene one = TWO.each(3, "seen(0, %d, true)").and("seen(0, 4, true)", "seen(0, 8, true)", "seen(0, 9, false)");
        due.still(one, 0, "look(0, 0)", "look(99999, 0)");
        due.still(one, 1, "look(0, 1)", "look(9, 1)");
        // land 0 is known, of the others 1 tells most
        Scene three = Scene.of("lands(3, 1)", "seen(0, 0, true)");
        due.still(three, 1, "look(0, 0)");
        due.still(three, 45, "look(0, 1)");
        // slits do not count
        due.still(three.and("set(2, 2)", "set(3, 0)", "set(4, 0)"), 1, "look(0, 0)");
    }

    private static void fraction(Scene scene, String call, long upper, long lower) {
        due.still(scene, upper, "dust(" + call + ", 0)");
        due.still(scene, lower, "dust(" + call + ", 1)");
    }

    private static void dust() {
        due.promise(29, "dust");
        // always lit, but for dust; it needs to be lit each year
        Scene lit = DAY.and("land(5, 0, 2)");
        fraction(lit, "5, 0, 0", 1, 1);
        fraction(lit, "5, 10, 0", 1, 1);
        fraction(lit, "5, 0, 12", 1, 1);
        fraction(lit, "5, 10, 1", 0, 1);
        fraction(lit, "5, 10, 12", 0, 1);
        fraction(lit, "5, 1, 12", 282429536481L, 1000000000000L);
        fraction(lit, "5, 9, 12", 1, 1000000000000L);
        // dark in fact: dust is nothing to it
        fraction(NEW, "0, 0, 1", 0, 1);
        fraction(Scene.of("land(0, 2, 2)"), "0, 10, 1", 1, 1);
        fraction(Scene.of("land(0, 2, 2)"), "0, 3, 2", 7, 10);
        // who eats nothing
        fraction(lit.and("land(5, 1, 0)"), "5, 10, 12", 1, 1);
        // hungry in the first year alone
        fraction(Scene.of("land(0, 0, 20)"), "0, 0, 12", 0, 1);
        // just enough for 11 years, for 12
        fraction(lit.and("land(5, 1, 1)", "land(5, 2, 11)", "land(5, 0, 0)"), "5, 5, 11", 1, 1);
        fraction(lit.and("land(5, 1, 1)", "land(5, 2, 11)", "land(5, 0, 0)"), "5, 5, 12", 0, 1);
        fraction(lit.and("land(5, 1, 1)", "land(5, 2, 11)"), "5, 5, 12", 4095, 4096);
        // what is above CAP is lost
        fraction(lit.and("land(5, 0, 4)"), "5, 5, 2", 1, 2);
        fraction(lit.and("land(5, 0, 4)", "land(5, 3, 1)"), "5, 5, 2", 1, 4);
        // a STORE of 99, year by year
        Scene full = lit.and("land(5, 1, 0)", "land(5, 3, 99)", "land(5, 2, 99)");
        fraction(full, "5, 5, 1", 1, 1);
        fraction(full, "5, 5, 2", 1, 1);
        fraction(full.and("land(5, 1, 1)"), "5, 5, 1", 1, 1);
        // from now on
        fraction(NEW.pad(".").and("done()"), "0, 0, 1", 1, 1);
    }

    private static void dustInLowestTerms() {
        Scene lit = DAY.and("land(5, 0, 2)");
        fraction(lit, "5, 5, 1", 1, 2);
        fraction(lit, "5, 2, 1", 4, 5);
        fraction(lit, "5, 8, 1", 1, 5);
        fraction(lit, "5, 3, 1", 7, 10);
        fraction(lit, "5, 5, 12", 1, 4096);
        fraction(lit, "5, 2, 12", 16777216, 244140625);
        // 0 and 1 too: it is 0 by 1, 1 by 1
        fraction(lit.and("land(5, 1, 20)"), "5, 3, 12", 0, 1);
        fraction(lit.and("land(5, 1, 0)"), "5, 3, 12", 1, 1);
    }

    private static void dustRefused() {
        due.still(BUSY, NO_LAND, "dust(-1, 0, 0, 0)", "dust(7, 0, 0, 0)", "dust(MIN, 0, 0, 0)", "dust(MAX, 0, 0, 1)");
        due.still(BUSY, NO_LAND, "dust(7, 11, 0, 0)", "dust(7, 0, 13, 0)", "dust(7, 0, 0, 2)", "dust(-1, -1, -1, -1)");
        due.still(BUSY, NO_NUMBER, "dust(0, -1, 0, 0)", "dust(6, 11, 0, 1)", "dust(0, MIN, 0, 0)", "dust(0, MAX, 0, 0)");
        due.still(BUSY, NO_NUMBER, "dust(0, 0, -1, 0)", "dust(6, 0, 13, 1)", "dust(0, 0, MIN, 0)", "dust(0, 0, MAX, 0)");
        due.still(BUSY, NO_NUMBER, "dust(0, 0, 0, -1)", "dust(6, 0, 0, 2)", "dust(0, 0, 0, MIN)", "dust(0, 0, 0, MAX)");
    }

    private static void rent() {
        due.promise(30, "rent");
        // land 4 has a slit in each fifth year
        Scene fifth = NIGHT.and("set(2, 5)", "set(4, 0)");
        due.still(fifth, 0, "rent(4, 5, 0, 99)", "rent(4, 5, 1, 0)", "rent(4, 0, 5, 99)", "rent(4, 6, 4, 99)",
            "rent(4, 11, 4, 99)", "rent(4, 99996, 4, 99)");
        due.still(fifth, 4, "rent(4, 5, 1, 1)", "rent(4, 0, 6, 1)", "rent(4, 1, 9, 1)", "rent(4, 99999, 5, 1)");
        due.still(fifth, 8, "rent(4, 5, 6, 1)");
        due.still(fifth, 99 * 4, "rent(4, 5, 1, 99)");
        due.still(fifth, 99 * 4 * 1999, "rent(4, 0, 9999, 99)");
        due.still(fifth, 99 * 4 * 2000, "rent(4, 99999, 9999, 99)");
        // no slits; slits where it is not covered; no dark year between them
        due.still(NIGHT, 0, "rent(4, 0, 9999, 99)");
        due.still(Scene.of("set(2, 2)", "set(4, 0)"), 0, "rent(5, 0, 4, 99)");
        due.still(DAY, 0, "rent(0, 0, 9999, 99)");
    }

    private static void rentAhead() {
        // 9 at most
        int[][] rows = {{2, 1}, {9, 8}, {10, 9}, {11, 9}, {20, 9}};
        for (int[] r : rows) {
            Scene scene = NIGHT.and("set(2, " + r[0] + ")", "set(4, 0)");
            due.still(scene, r[1], "rent(4, " + r[0] + ", 1, 1)");
            due.still(scene, 7 * r[1], "rent(4, " + 3 * r[0] + ", 1, 7)");
        }
        // years from 0 on alone: land 1 is covered each year, its slits are in this year and 11 later
        for (int year = 0; year <= 10; year++) {
            Scene scene = Scene.of("lands(9, 8)", "set(2, 11)", "set(4, " + (11 - year) + ")");
            due.still(scene, Math.min(9, year), "rent(1, " + year + ", 1, 1)", "rent(1, 0, " + (year + 1) + ", 1)");
            due.still(scene, 9, "rent(1, " + (year + 11) + ", 1, 1)");
            int later = (9998 - year) / 11;
            due.still(scene, Math.min(9, year) + 9 * later, "rent(1, 0, 9999, 1)");
            due.still(scene, 9 * later, "rent(1, " + (year + 1) + ", " + (9998 - year) + ", 1)");
        }
        // right ahead of it, one behind another: it was lit, since not covered, in the year before
        Scene even = Scene.of("set(2, 2)", "set(4, 0)");
        due.still(even, 0, "rent(0, 0, 9, 1)", "rent(5, 0, 9, 1)");
        // land 1 is dark in 7 and 9, and has a slit in 8; land 2 is dark in 1 and 7, and has slits in 2 and 6
        due.still(even, 1, "rent(1, 8, 1, 1)", "rent(2, 2, 1, 1)");
        due.still(even, 0, "rent(2, 6, 1, 1)", "rent(1, 7, 1, 1)", "rent(1, 9, 1, 1)");
    }

    private static void rentRefused() {
        due.still(BUSY, UNKNOWN, "rent(-1, 0, 1, 1)", "rent(7, 0, 1, 1)", "rent(MIN, 0, 1, 1)", "rent(MAX, 0, 1, 1)");
        due.still(BUSY, UNKNOWN, "rent(7, -1, 1, 1)", "rent(7, 0, 10000, 1)", "rent(7, 0, 1, 100)", "rent(-1, -1, -1, -1)");
        due.still(BUSY, OUTSIDE, "rent(0, -1, 1, 1)", "rent(6, 100000, 1, 1)", "rent(0, MIN, 1, 1)", "rent(0, MAX, 1, 1)");
        due.still(BUSY, OUTSIDE, "rent(0, 0, -1, 1)", "rent(6, 0, 10000, 1)", "rent(0, 0, MIN, 1)", "rent(0, 0, MAX, 1)");
        due.still(BUSY, OUTSIDE, "rent(0, 0, 1, -1)", "rent(6, 0, 1, 100)", "rent(0, 0, 1, MIN)", "rent(0, 0, 1, MAX)");
    }

    private static void age() {
        due.promise(31, "age");
        Scene poor = NEW.each(6, "land(%d, 0, 0)");
        due.still(poor, 6, "age(0, 1, 0)", "age(9999, 1, 0)");
        due.still(poor, 594, "age(0, 99, 0)", "age(9999, 99, 0)");
        due.still(poor, 0, "age(0, 99, 1)", "age(9999, 99, 1)", "age(0, 99, 2)", "age(9999, 99, 2)");
        Scene rich = Scene.of("lands(9, 1)").each(9, "land(%d, 0, 20)").each(9, "land(%d, 1, 0)").each(9, "land(%d, 3, 99)");
        due.still(rich, 0, "age(0, 99, 0)", "age(9999, 99, 0)");
        due.still(rich, 891, "age(0, 99, 1)", "age(9999, 99, 1)");
        // from the year that it is: in year 1 land 0 is lit, and 2 is dark, though it has 1
        due.still(NEW, 2, "age(0, 1, 0)");
        due.still(NEW.pad(".").and("done()"), 2, "age(0, 1, 0)");
        due.still(NEW.pad(".").and("done()", "land(2, 2, 2)"), 1, "age(0, 1, 0)");
    }

    private static void ageLends() {
        // 9999 becomes 29092: of nine LANDS 4 lends 1 five
        Scene nine = Scene.of("lands(9, 1)");
        due.still(nine.and("land(4, 2, 5)"), 1, "age(9999, 1, 2)");
        due.still(nine.and("land(4, 2, 4)"), 0, "age(9999, 1, 2)");
        due.still(nine.and("land(4, 2, 5)", "land(1, 3, 5)"), 1, "age(9999, 1, 2)");
        due.still(nine.and("land(4, 2, 5)", "land(1, 3, 4)"), 0, "age(9999, 1, 2)");
        due.still(nine.and("land(4, 2, 5)", "land(1, 2, 45)"), 1, "age(9999, 1, 2)");
        due.still(nine.and("land(4, 2, 5)", "land(1, 2, 46)"), 0, "age(9999, 1, 2)");
        // of six LANDS 4 would lend itself
        due.still(Scene.of("land(4, 2, 50)"), 0, "age(9999, 1, 2)");
        // 0 becomes 74: of nine LANDS 2 lends 8 one
        due.still(nine.and("land(2, 2, 1)"), 1, "age(0, 1, 2)");
        due.still(nine, 0, "age(0, 1, 2)");
        // of six, 74 is nothing; 5624 is 2 to 0 five; 28652, what 421874 leaves over, is 2 to 3 four
        Scene six = NEW.each(6, "land(%d, 0, 0)").each(6, "land(%d, 1, 0)");
        due.still(six.and("land(2, 2, 9)"), 0, "age(0, 1, 2)");
        due.still(six.and("land(2, 2, 5)"), 1, "age(0, 2, 2)");
        due.still(six.and("land(2, 2, 4)"), 0, "age(0, 2, 2)");
        due.still(six.and("land(2, 2, 9)"), 2, "age(0, 3, 2)");
        due.still(six.and("land(2, 2, 8)"), 1, "age(0, 3, 2)");
        due.still(six.and("land(2, 2, 9)", "land(3, 3, 3)"), 1, "age(0, 3, 2)");
        due.still(six.and("land(2, 2, 9)"), 9, "age(0, 3, 1)");
        // it is lent ahead of the YEAR: what 4 gives away it has not for itself
        due.still(nine.and("land(4, 0, 0)", "land(4, 2, 6)"), 2, "age(9999, 1, 0)");
        due.still(nine.and("land(4, 0, 0)", "land(4, 2, 7)"), 1, "age(9999, 1, 0)");
    }

    private static void ageRefused() {
        due.still(BUSY, OUTSIDE, "age(-1, 1, 0)", "age(10000, 1, 0)", "age(MIN, 1, 0)", "age(MAX, 1, 0)");
        due.still(BUSY, OUTSIDE, "age(0, 0, 0)", "age(0, 100, 0)", "age(0, -1, 0)", "age(0, MIN, 0)", "age(0, MAX, 0)");
        due.still(BUSY, OUTSIDE, "age(0, 1, -1)", "age(0, 1, 3)", "age(0, 1, MIN)", "age(0, 1, MAX)", "age(-1, 0, 3)");
    }
}
