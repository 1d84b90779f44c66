/** Promises 22 to 31: walks, laws, dust, rents, ages by draws. */
public final class WalksTest {
    private static final Due due = new Due();

    public static void main(String[] args) {
        ways();
        where();
        meet();
        seenAndForget();
        laws();
        look();
        dust();
        rent();
        age();
        due.end("WalksTest");
    }

    private static void ways() {
        due.promise(22, "ways");
        RingShadow x = new RingShadow();
        // dark are 0, 1 in year 0; 1, 2 in year 1; 2, 3 in year 2
        long[][] rows = {{0, 0, 0, 0, 1}, {0, 1, 0, 0, 0}, {2, 2, 0, 0, 0}, {0, 1, 0, 1, 1}, {0, 2, 0, 1, 0},
            {0, 0, 0, 1, 0}, {1, 1, 0, 1, 1}, {1, 2, 0, 1, 1}, {1, 2, 0, 2, 2}, {1, 3, 0, 2, 1}, {0, 2, 0, 2, 1},
            {5, 5, 0, 4, 0}, {1, 2, 99999, 0, 0}, {1, 1, 99999, 0, 1}, {1, 0, 99999, 1, 1}};
        for (long[] r : rows) {
            due.is("ways(" + r[0] + ", " + r[1] + ", " + r[2] + ", " + r[3] + ")",
                x.ways((int) r[0], (int) r[1], (int) r[2], (int) r[3]), r[4]);
        }
        x.set(2, 3);
        // year 1: 1 times 1 and 2 times 1 is 3, so 2 has a slit
        due.is("a slit", x.ways(1, 2, 0, 1), 0);
        x.set(2, 0);
        x.lands(9, 8);
        x.set(0, 9);
        // of 1107 rows of eight steps one would go by land 8
        due.is("eight years", x.ways(4, 4, 0, 8), 1106);
        due.is("the longest walk", x.ways(4, 4, 0, 30), 12491519907814L);
    }

    private static void where() {
        due.promise(23, "where");
        RingShadow x = new RingShadow();
        due.is("where(0, 0, 0)", x.where(0, 0, 0), 1);
        due.is("where(2, 0, 0)", x.where(2, 0, 0), 0);
        due.is("where(0, 0, 1)", x.where(0, 0, 1), 2);
        due.is("where(1, 0, 1)", x.where(1, 0, 1), 6);
        due.is("where(1, 0, 2)", x.where(1, 0, 2), 12);
        due.is("where(0, 0, 2)", x.where(0, 0, 2), 4);
        due.is("where(5, 0, 3)", x.where(5, 0, 3), 0);
        due.is("where(1, 99999, 30)", x.where(1, 99999, 30), 48 >> 1);
        x.lands(9, 8);
        due.is("the ninth", x.where(8, 1, 0), 256);
    }

    private static void meet() {
        due.promise(24, "meet");
        RingShadow x = new RingShadow();
        due.is("at once", x.meet(0, 0, 0), 0);
        due.is("it is lit there", x.meet(5, 5, 0), RingShadow.NONE);
        due.is("one is lit", x.meet(0, 2, 0), RingShadow.NONE);
        due.is("a year later", x.meet(0, 1, 0), 1);
        due.is("the other way round", x.meet(1, 0, 0), 1);
        due.is("from the last year on", x.meet(1, 2, 99999), 100000);
        x.set(2, 10);
        // dark are 0, 1 in year 8, and in year 9, since 1 has a slit, 2 alone
        due.is("one can not go on", x.meet(0, 1, 8), RingShadow.NONE);
        x.set(2, 0);
        x.lands(9, 8);
        due.is("from both ends", x.meet(0, 7, 0), 4);
    }

    private static void seenAndForget() {
        due.promise(25, "seen");
        RingShadow x = new RingShadow();
        for (int i = 1; i <= 8; i++) {
            due.is("one more", x.seen(5, 9999, i % 2 == 0), i);
        }
        due.is("a ninth", x.seen(5, 9999, true), RingShadow.FULL);
        due.is("a ninth, outside", x.seen(5, 10000, true), RingShadow.OUTSIDE);
        due.is("a ninth, unknown", x.seen(6, 0, true), RingShadow.UNKNOWN);
        due.is("told(9)", x.told(9), 8);
        due.promise(26, "forget");
        due.is("forget()", x.forget(), 8);
        due.is("forget()", x.forget(), 0);
        due.is("told(9)", x.told(9), 0);
        due.is("seen again", x.seen(0, 0, true), 1);
        due.is("forget()", x.forget(), 1);
        x.lands(2, 1);
        due.is("all laws again", x.laws(-1), 90);
    }

    private static void laws() {
        due.promise(27, "laws");
        RingShadow x = new RingShadow();
        x.lands(2, 1);
        int[][] rows = {{-1, 90}, {0, 1100}, {1, 1101}, {2, 1200}, {89, 1917}, {90, RingShadow.NONE},
            {-2, RingShadow.NONE}};
        for (int[] r : rows) {
            due.is("laws(" + r[0] + ")", x.laws(r[0]), r[1]);
        }
        x.seen(0, 0, true);
        due.is("AGE below PACE", x.laws(-1), 45);
        x.set(2, 2);
        x.set(3, 0);
        x.set(4, 0);
        due.is("slits or not", x.laws(-1), 45);
        x.seen(0, 1, true);
        due.is("AGE below PACE less 1", x.laws(-1), 36);
        due.is("laws(0)", x.laws(0), 1200);
        due.is("laws(1)", x.laws(1), 1300);
        due.is("laws(35)", x.laws(35), 1907);
        due.is("laws(36)", x.laws(36), RingShadow.NONE);
        x.seen(1, 1, true);
        due.is("none fits", x.laws(-1), 0);
        due.is("none fits", x.laws(0), RingShadow.NONE);
        x.lands(9, 1);
        due.is("AGE stays below 100", x.laws(-1), 3110);
        due.is("the last", x.laws(3109), 8917);
        due.is("behind the last", x.laws(3110), RingShadow.NONE);
    }

    private static void look() {
        due.promise(28, "look");
        RingShadow x = new RingShadow();
        x.lands(2, 1);
        due.is("the least of two", x.look(0, 0), 0);
        due.is("half of them", x.look(0, 1), 45);
        x.seen(0, 0, true);
        due.is("nothing to be learnt", x.look(0, 0), 0);
        due.is("all are left", x.look(0, 1), 45);
        // of PACE p the ages 0 to p less 2 stay at land 0, one goes
        due.is("in year 1", x.look(1, 1), 36);
        due.is("year 99999", x.look(99999, 0), 0);
        x.seen(0, 0, false);
        due.is("no laws", x.look(0, 0), RingShadow.NONE);
        due.is("no laws", x.look(0, 1), RingShadow.NONE);
        x.lands(3, 1);
        x.seen(0, 0, true);
        due.is("not land 0, which is known", x.look(0, 0), 1);
    }

    private static void fraction(RingShadow x, int land, int c, int m, long[] want) {
        String call = "dust(" + land + ", " + c + ", " + m + ", ";
        due.is(call + "0)", x.dust(land, c, m, 0), want[0]);
        due.is(call + "1)", x.dust(land, c, m, 1), want[1]);
    }

    private static void dust() {
        due.promise(29, "dust");
        RingShadow x = new RingShadow();
        fraction(x, 5, 3, 0, new long[] {1, 1});
        fraction(x, 5, 3, 1, new long[] {7, 10});
        fraction(x, 5, 3, 2, new long[] {49, 100});
        fraction(x, 5, 5, 1, new long[] {1, 2});
        fraction(x, 5, 0, 5, new long[] {1, 1});
        fraction(x, 5, 10, 1, new long[] {0, 1});
        fraction(x, 0, 5, 1, new long[] {0, 1});
        x.land(3, 2, 2);
        // lit, lit, dark: hungry in the third year, if it was not lit twice
        fraction(x, 3, 5, 1, new long[] {1, 1});
        fraction(x, 3, 5, 2, new long[] {3, 4});
        fraction(x, 3, 5, 3, new long[] {1, 4});
        x.land(3, 3, 2);
        fraction(x, 3, 5, 3, new long[] {1, 4});
        x.land(3, 0, 5);
        // lit at last, it has 2 at least
        fraction(x, 3, 5, 3, new long[] {1, 2});
        x.land(3, 3, 50);
        // lit at first, it has 5 and then 3 at least
        fraction(x, 3, 5, 3, new long[] {3, 4});
        x.land(3, 3, 99);
        x.land(3, 2, 99);
        x.land(3, 1, 9);
        // eleven meals of 9 are all that it has
        fraction(x, 3, 10, 11, new long[] {1, 1});
        fraction(x, 3, 10, 12, new long[] {0, 1});
        x.lands(2, 1);
        Due.pad(x, ".").done();
        fraction(x, 0, 1, 1, new long[] {9, 10});
        fraction(x, 1, 1, 1, new long[] {0, 1});
        x.lands(9, 1);
        x.land(8, 0, 2);
        x.land(8, 2, 2);
        x.set(2, 2);
        x.set(3, 0);
        x.set(4, 0);
        // always lit; it is fed as long as it was dark at most once: 9^12 and 12 times 9^11 of 10^12
        fraction(x, 8, 1, 12, new long[] {21L * 31381059609L, 1000000000000L});
    }

    private static void rent() {
        due.promise(30, "rent");
        RingShadow x = new RingShadow();
        due.is("no slits", x.rent(0, 0, 9999, 99), 0);
        x.lands(9, 8);
        x.set(2, 5);
        x.set(4, 0);
        // land 4 is always covered, and lit in each fifth year
        due.is("no years", x.rent(4, 5, 0, 1), 0);
        due.is("nothing ahead of year 0", x.rent(4, 0, 5, 1), 0);
        due.is("ten years", x.rent(4, 0, 10, 1), 4);
        due.is("eleven years", x.rent(4, 0, 11, 1), 8);
        due.is("ahead of t too", x.rent(4, 5, 1, 3), 12);
        due.is("a whole period", x.rent(4, 10, 10, 1), 8);
        due.is("9999 years", x.rent(4, 0, 9999, 99), 99 * 4 * 1999);
        due.is("from the last on", x.rent(4, 99999, 9999, 1), 4 * 2000);
        due.is("for nothing", x.rent(4, 0, 9999, 0), 0);
        x.set(2, 20);
        due.is("9 at most", x.rent(4, 20, 1, 1), 9);
        x.set(2, 7);
        x.set(4, 1);
        due.is("years from 0 on alone", x.rent(4, 0, 4, 1), 3);
        due.is("the next one", x.rent(4, 4, 7, 1), 6);
        x.lands(6, 2);
        x.set(2, 2);
        x.set(4, 0);
        due.is("lit before the slit", x.rent(0, 1, 99, 1), 0);
    }

    private static void age() {
        due.promise(31, "age");
        RingShadow x = new RingShadow();
        // x becomes 74: land 2 would lend itself
        int[] zero = {2, 4, 0};
        for (int what = 0; what < 3; what++) {
            due.is("age(0, 1, " + what + ")", x.age(0, 1, what), zero[what]);
        }
        // x becomes 149: land 5 would lend land 4 two
        due.is("it has nothing", x.age(1, 1, 2), 0);
        x.land(5, 2, 1);
        due.is("it has too little", x.age(1, 1, 2), 0);
        x.land(5, 2, 2);
        due.is("it has enough", x.age(1, 1, 2), 1);
        due.is("STORES", x.age(1, 1, 1), 6);
        due.is("hungry", x.age(1, 1, 0), 2);
        x.land(5, 0, 0);
        due.is("what is lent is not eaten", x.age(1, 1, 0), 3);
        x.land(4, 3, 1);
        due.is("it can not be kept", x.age(1, 1, 2), 0);
        due.is("nothing is done", x.told(8), 0);
        due.is("nothing is lent", x.told(62), 2);
    }
}
