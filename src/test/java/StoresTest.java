/** Promises 16 to 21: who will be hungry, what is needed and carried, who may strike. */
public final class StoresTest {
    private static final Due due = new Due();

    public static void main(String[] args) {
        hungry();
        hungryFarOff();
        needs();
        needsUnderCap();
        carry();
        paced();
        strike();
        strikes();
        due.end("StoresTest");
    }

    private static void hungry() {
        due.promise(16, "hungry");
        RingShadow x = new RingShadow();
        due.is("hungry(0)", x.hungry(0), 1);
        due.is("hungry(1)", x.hungry(1), 0);
        x.land(0, 2, 2);
        due.is("only land 1", x.hungry(1), 1);
        x.land(1, 2, 2);
        // in the second year 1 has 0 and 2 has 1
        due.is("the second year", x.hungry(0), 2);
        due.is("the least of two", x.hungry(1), 1);
        due.is("nothing is done", x.told(8), 0);
        due.is("nothing is eaten", x.told(12), 2);
        Due.pad(x, ".").done();
        due.is("from the year that it is", x.hungry(0), 1);
    }

    private static void hungryFarOff() {
        RingShadow x = new RingShadow();
        for (int k = 0; k < 6; k++) {
            x.land(k, 1, 0);
        }
        due.is("never", x.hungry(0), RingShadow.NONE);
        due.is("no land", x.hungry(1), RingShadow.NONE);
        x.land(5, 0, 0);
        x.land(5, 1, 1);
        x.land(5, 3, 99);
        x.land(5, 2, 98);
        due.is("the last year", x.hungry(0), 99);
        due.is("the last land", x.hungry(1), 5);
        x.land(5, 2, 99);
        due.is("later than that", x.hungry(0), RingShadow.NONE);
        due.is("later than that", x.hungry(1), RingShadow.NONE);
    }

    private static void needs() {
        due.promise(17, "needs");
        RingShadow x = new RingShadow();
        due.is("needs(0, 1)", x.needs(0, 1), 2);
        due.is("needs(0, 9)", x.needs(0, 9), 2);
        due.is("needs(5, 1)", x.needs(5, 1), 0);
        // land 1: dark in years 0, 1, lit in 2 to 6, dark in 7, 8, 9
        due.is("needs(1, 9)", x.needs(1, 9), 4);
        due.is("needs(1, 10)", x.needs(1, 10), 5);
        x.land(1, 2, 50);
        due.is("whatever it has", x.needs(1, 10), 5);
        // it has 6 at the start of year 7
        x.land(1, 3, 6);
        due.is("just its CAP", x.needs(1, 10), 5);
        x.land(1, 3, 5);
        due.is("more than its CAP", x.needs(1, 10), RingShadow.NONE);
        x.land(1, 3, 4);
        due.is("just its CAP", x.needs(1, 9), 4);
        x.land(1, 3, 3);
        due.is("more than its CAP", x.needs(1, 9), RingShadow.NONE);
        x.land(5, 1, 0);
        due.is("who eats nothing", x.needs(5, 99), 0);
        x.land(5, 0, 0);
        x.land(5, 1, 1);
        due.is("who yields nothing", x.needs(5, 50), 50);
        due.is("who yields nothing", x.needs(5, 51), RingShadow.NONE);
        x.land(5, 3, 99);
        due.is("who yields nothing", x.needs(5, 99), 99);
    }

    private static void needsUnderCap() {
        RingShadow x = new RingShadow();
        Due.pad(x, ".").done();
        // land 0 is lit in years 1 to 7, dark in 8
        due.is("by what it yields", x.needs(0, 8), 0);
        x.land(0, 3, 2);
        due.is("by what it can keep", x.needs(0, 8), 0);
        x.land(0, 3, 1);
        due.is("not yet dark", x.needs(0, 7), 0);
        due.is("it can not keep so much", x.needs(0, 8), RingShadow.NONE);
    }

    private static void carry() {
        due.promise(18, "carry");
        RingShadow x = new RingShadow();
        due.is("nothing to carry", x.carry(1), RingShadow.NONE);
        x.lands(2, 1);
        x.land(1, 2, 1);
        due.is("too little", x.carry(1), RingShadow.NONE);
        x.land(1, 2, 2);
        due.is("just enough", x.carry(1), 2);
        due.is("nothing is carried", x.told(22), 2);
        x.land(0, 2, 1);
        due.is("one is there", x.carry(1), 1);
        x.land(0, 2, 2);
        due.is("all is there", x.carry(1), 0);
        x.lands(3, 1);
        x.land(2, 2, 2);
        due.is("two lands away", x.carry(1), 4);
        x.land(1, 1, 0);
        x.land(1, 3, 0);
        due.is("over a land that can keep nothing", x.carry(1), 4);
        x.land(0, 3, 1);
        due.is("a land that can not keep what it needs", x.carry(1), RingShadow.NONE);
        x.lands(9, 1);
        for (int k = 0; k < 9; k++) {
            x.land(k, 0, 0);
            x.land(k, 1, k == 4 ? 8 : 0);
        }
        x.land(0, 2, 3);
        x.land(3, 2, 3);
        x.land(5, 2, 4);
        x.land(8, 2, 9);
        due.is("from the nearest on both sides", x.carry(1), 3 + 4 + 4);
        x.land(4, 1, 19);
        due.is("all of it", x.carry(1), 12 + 3 + 4 + 36);
        x.land(4, 1, 20);
        due.is("one too few", x.carry(1), RingShadow.NONE);
        x.land(4, 1, 0);
        due.is("for the most years", x.carry(40), 0);
        carryFromFullLands(x);
    }

    private static void carryFromFullLands(RingShadow x) {
        for (int k = 0; k < 9; k++) {
            x.land(k, 3, 99);
            x.land(k, 2, k == 8 ? 79 : 99);
        }
        x.land(8, 1, 20);
        due.is("what is there is enough", x.carry(3), 0);
        due.is("one is wanted", x.carry(4), 1);
        x.land(8, 2, 0);
        due.is("eighty are wanted", x.carry(4), 80);
        due.is("a hundred can not be kept", x.carry(5), RingShadow.NONE);
        x.land(8, 2, 99);
        due.is("all full", x.carry(4), 0);
    }

    private static void paced() {
        due.promise(19, "paced");
        RingShadow x = new RingShadow();
        due.is("paced(1, 1)", x.paced(1, 1), 2);
        due.is("paced(1, 2)", x.paced(1, 2), 4);
        due.is("paced(9, 9)", x.paced(9, 9), 18);
        // in year 9 lands 1, 2 are dark: 2 has 9 by then, 1 has none
        due.is("paced(9, 10)", x.paced(9, 10), 19);
        due.is("the pace stays", x.told(3), 1);
        due.is("nothing is eaten", x.told(42), 0);
        x.set(0, 2);
        due.is("another pace", x.paced(1, 2), 4);
        int own = Due.pad(x, ":").judge(3);
        due.is("its own pace", x.paced(2, 10), own);
        x.set(1, 4);
        Due.pad(x, ".").done();
        own = Due.pad(x, ":........").judge(3);
        due.is("from the year that it is, by its AGE", x.paced(2, 18), own);
        due.is("99 years", x.paced(2, 99), Due.pad(x, ":::::::::.........").judge(3));
    }

    private static void strike() {
        due.promise(20, "strike");
        RingShadow x = new RingShadow();
        due.is("strike(0, 5, 0)", x.strike(0, 5, 0), 4);
        due.is("strike(0, 5, 5)", x.strike(0, 5, 5), 12);
        due.is("strike(5, 0, 0)", x.strike(5, 0, 0), 0);
        due.is("strike(0, 1, 0)", x.strike(0, 1, 0), 1);
        due.is("never", x.strike(1, 0, 0), RingShadow.NONE);
        due.is("beyond the last year that may be asked for", x.strike(5, 0, 99999), 100000);
        x.set(2, 2);
        x.set(3, 1);
        x.set(4, 1);
        // year 0: 0 has a slit, 1 has none
        due.is("by a slit", x.strike(0, 1, 0), 0);
        due.is("both are one", x.strike(3, 3, 0), RingShadow.UNKNOWN);
    }

    private static void strikes() {
        due.promise(21, "strikes");
        RingShadow x = new RingShadow();
        due.is("no years", x.strikes(0, 1, 0, 0), 0);
        due.is("one year", x.strikes(5, 0, 0, 1), 1);
        due.is("a whole round", x.strikes(0, 1, 0, 8), 2);
        due.is("less than a round", x.strikes(0, 1, 2, 5), 0);
        due.is("9999 years", x.strikes(0, 1, 0, 9999), 2499);
        due.is("from the last on", x.strikes(0, 1, 99999, 9999), 2500);
        due.is("never", x.strikes(1, 0, 0, 9999), 0);
        due.is("both are one", x.strikes(3, 3, 0, 1), RingShadow.UNKNOWN);
    }
}
