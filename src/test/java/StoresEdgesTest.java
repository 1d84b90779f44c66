/** Promises 16 to 21 at the edges that the document names. */
public final class StoresEdgesTest {
    private static final int UNKNOWN = RingShadow.UNKNOWN, OUTSIDE = RingShadow.OUTSIDE, NONE = RingShadow.NONE;
    private static final Scene NEW = Scene.NEW, BUSY = Scene.BUSY;
    /** Nobody eats. */
    private static final Scene CALM = NEW.each(6, "land(%d, 1, 0)");
    /** Land 5 eats 1 a year of its store alone, nobody else eats. */
    private static final Scene ONE_EATS = CALM.and("land(5, 0, 0)", "land(5, 1, 1)", "land(5, 3, 99)");
    private static final Due due = new Due();

    public static void main(String[] args) {
        hungry();
        hungryWithin99();
        needs();
        needsUpToCap();
        needsFromNow();
        carry();
        carryByNeeds();
        carryByCaps();
        paced();
        strike();
        strikes();
        due.end("StoresEdgesTest");
    }

    private static void hungry() {
        due.promise(16, "hungry");
        due.still(BUSY, OUTSIDE, "hungry(-1)", "hungry(2)", "hungry(MIN)", "hungry(MAX)");
        due.still(CALM, OUTSIDE, "hungry(-1)", "hungry(2)");
        // the first YEAR is 1; of two LANDS the least
        due.still(NEW, 1, "hungry(0)");
        due.still(NEW, 0, "hungry(1)");
        due.still(Scene.of("land(0, 2, 2)"), 1, "hungry(0)", "hungry(1)");
        due.still(Scene.of("land(0, 2, 1)"), 0, "hungry(1)");
        // a greater LAND that is hungry sooner
        due.still(ONE_EATS.and("land(0, 1, 20)", "land(0, 2, 20)"), 1, "hungry(0)");
        due.still(ONE_EATS.and("land(0, 1, 20)", "land(0, 2, 20)"), 5, "hungry(1)");
        // the PAD does not count
        due.still(NEW.pad("..x"), 1, "hungry(0)");
        // from the year that it is: of lands 0 and 5, which has 3 by then, 0 is dark in year 8
        Scene later = CALM.and("land(0, 0, 0)", "land(0, 1, 1)", "land(0, 2, 8)").pad(".......").and("done()");
        due.still(later, 2, "hungry(0)");
        due.still(later, 0, "hungry(1)");
    }

    private static void hungryWithin99() {
        due.still(CALM, NONE, "hungry(0)", "hungry(1)");
        due.still(ONE_EATS, 1, "hungry(0)");
        due.still(ONE_EATS.and("land(5, 2, 97)"), 98, "hungry(0)");
        due.still(ONE_EATS.and("land(5, 2, 98)"), 99, "hungry(0)");
        due.still(ONE_EATS.and("land(5, 2, 98)"), 5, "hungry(1)");
        due.still(ONE_EATS.and("land(5, 2, 99)"), NONE, "hungry(0)", "hungry(1)");
        due.still(ONE_EATS.and("land(5, 2, 99)").pad(".").and("done()"), 99, "hungry(0)");
    }

    private static void needs() {
        due.promise(17, "needs");
        due.still(BUSY, UNKNOWN, "needs(-1, 1)", "needs(7, 1)", "needs(MIN, 1)", "needs(MAX, 0)", "needs(7, 100)");
        due.still(BUSY, OUTSIDE, "needs(0, 0)", "needs(6, 100)", "needs(0, -1)", "needs(0, MIN)", "needs(0, MAX)");
        due.still(NEW, 2, "needs(0, 1)", "needs(1, 1)", "needs(0, 8)", "needs(0, 9)");
        due.still(NEW, 0, "needs(2, 1)", "needs(5, 1)");
        // by 99 years all is made up for: 3 when lit, 2 eaten
        due.still(NEW, 2, "needs(0, 99)");
        due.still(NEW, 0, "needs(5, 99)");
        // land 1: dark in years 0 and 1, lit up to 6, dark in 7 to 9
        due.still(NEW, 4, "needs(1, 2)", "needs(1, 9)");
        due.still(NEW, 5, "needs(1, 10)");
        due.still(CALM, 0, "needs(0, 99)");
    }

    private static void needsUpToCap() {
        due.still(ONE_EATS, 99, "needs(5, 99)");
        due.still(ONE_EATS, 1, "needs(5, 1)");
        due.still(ONE_EATS.and("land(5, 3, 98)"), 98, "needs(5, 98)");
        due.still(ONE_EATS.and("land(5, 3, 98)"), NONE, "needs(5, 99)");
        due.still(ONE_EATS.and("land(5, 3, 0)"), NONE, "needs(5, 1)");
        due.still(CALM.and("land(0, 3, 0)"), 0, "needs(0, 1)", "needs(0, 99)");
        due.still(Scene.of("land(0, 3, 2)"), 2, "needs(0, 1)");
        due.still(Scene.of("land(0, 3, 1)"), NONE, "needs(0, 1)");
        // what is above CAP is lost on the way: land 2 is lit in year 0, dark in 1 and 2
        due.still(Scene.of("land(2, 0, 20)", "land(2, 3, 4)"), 0, "needs(2, 3)");
        due.still(Scene.of("land(2, 0, 20)", "land(2, 3, 3)"), NONE, "needs(2, 3)");
        due.still(Scene.of("land(2, 0, 20)", "land(2, 3, 3)"), 0, "needs(2, 2)");
        // what it yields is eaten before CAP counts; land 5 is dark in year 4
        due.still(Scene.of("land(5, 0, 20)", "land(5, 1, 20)", "land(5, 3, 0)"), 0, "needs(5, 4)");
        due.still(Scene.of("land(5, 0, 20)", "land(5, 1, 20)", "land(5, 3, 0)"), NONE, "needs(5, 5)");
    }

    private static void needsFromNow() {
        // in place of what it has
        due.still(Scene.of("land(0, 2, 50)"), 2, "needs(0, 1)");
        due.still(Scene.of("land(0, 2, 1)"), 2, "needs(0, 1)");
        due.still(NEW.pad(".").and("done()"), 0, "needs(0, 1)");
        due.still(NEW.pad(".").and("done()"), 2, "needs(2, 1)");
        due.still(NEW.pad("."), 2, "needs(0, 1)");
    }

    private static void carry() {
        due.promise(18, "carry");
        due.still(BUSY, OUTSIDE, "carry(0)", "carry(41)", "carry(-1)", "carry(MIN)", "carry(MAX)");
        due.still(CALM, 0, "carry(1)", "carry(40)");
        due.still(CALM, OUTSIDE, "carry(0)", "carry(41)");
        due.still(NEW, NONE, "carry(1)", "carry(40)");
        // two LANDS: 0 needs 2 in year 0
        Scene two = Scene.of("lands(2, 1)");
        due.still(two, NONE, "carry(1)");
        due.still(two.and("land(1, 2, 1)"), NONE, "carry(1)");
        due.still(two.and("land(1, 2, 2)"), 2, "carry(1)");
        due.still(two.and("land(0, 2, 2)"), 0, "carry(1)");
        due.still(two.and("land(0, 2, 1)", "land(1, 2, 1)"), 1, "carry(1)");
        // from end to end, up and down
        Scene far = Scene.of("lands(9, 1)").each(9, "land(%d, 1, 0)");
        due.still(far.and("land(0, 1, 2)", "land(8, 2, 2)"), 16, "carry(1)");
        due.still(far.and("land(8, 0, 0)", "land(8, 1, 2)", "land(0, 2, 2)"), 16, "carry(1)");
        due.still(far.and("land(8, 0, 0)", "land(8, 1, 2)", "land(0, 2, 1)"), NONE, "carry(1)");
        due.still(far.and("land(8, 0, 0)", "land(8, 1, 1)", "land(8, 3, 99)", "land(0, 2, 40)"), 320, "carry(40)");
        due.still(far.and("land(8, 0, 0)", "land(8, 1, 1)", "land(8, 3, 99)", "land(0, 2, 39)"), NONE, "carry(40)");
    }

    private static void carryByNeeds() {
        // what a LAND needs itself is not given away: 0 needs 2, 1 needs 2 now, 2 needs 0
        Scene need = Scene.of("land(0, 2, 2)", "land(3, 2, 2)");
        due.still(need, 4, "carry(1)");
        due.still(Scene.of("land(0, 2, 4)"), 2, "carry(1)");
        due.still(Scene.of("land(0, 2, 3)"), NONE, "carry(1)");
        // and what comes by later is not there to be carried now
        due.still(Scene.of("land(5, 0, 20)"), NONE, "carry(1)");
        // from the year that it is
        // lands 2 to 5 have 1 each, 1 and 2 need 2 each: all is wanted
        due.still(NEW.pad(".").and("done()"), 1 + 3 + 4, "carry(1)");
        due.still(NEW.pad(".").and("done()", "land(5, 2, 0)"), NONE, "carry(1)");
        due.still(NEW.pad(".").and("done()", "land(0, 2, 4)", "land(3, 2, 0)", "land(2, 2, 0)"), 2 + 4, "carry(1)");
    }

    private static void carryByCaps() {
        Scene two = Scene.of("lands(2, 1)", "land(1, 2, 50)");
        due.still(two.and("land(0, 3, 2)"), 2, "carry(1)");
        due.still(two.and("land(0, 3, 1)"), NONE, "carry(1)");
        // by a LAND that can keep nothing, by one that is full: only when all is carried CAP counts
        Scene three = Scene.of("lands(3, 1)", "land(1, 1, 0)", "land(2, 2, 2)");
        due.still(three.and("land(1, 3, 0)"), 4, "carry(1)");
        due.still(three.and("land(1, 3, 5)", "land(1, 2, 5)"), 2, "carry(1)");
        due.still(three.and("land(1, 3, 1)", "land(1, 2, 1)"), 3, "carry(1)");
        // all full: nothing can be carried, nothing must be
        Scene full = Scene.of("lands(9, 1)").each(9, "land(%d, 3, 99)").each(9, "land(%d, 2, 99)");
        due.still(full, 0, "carry(1)", "carry(40)");
        due.still(full.and("land(0, 2, 0)", "land(0, 1, 20)"), 20, "carry(1)");
        // 9 times 11 is all that can be kept, and one is missing
        Scene most = full.and("land(8, 0, 0)", "land(8, 1, 11)");
        due.still(most, 0, "carry(9)");
        due.still(most.and("land(8, 2, 98)"), 1, "carry(9)");
        due.still(most.and("land(8, 2, 98)"), NONE, "carry(10)");
    }

    private static void paced() {
        due.promise(19, "paced");
        due.still(BUSY, OUTSIDE, "paced(0, 1)", "paced(10, 1)", "paced(-1, 1)", "paced(MIN, 1)", "paced(MAX, 1)");
        due.still(BUSY, OUTSIDE, "paced(1, 0)", "paced(9, 100)", "paced(1, -1)", "paced(1, MIN)", "paced(1, MAX)");
        due.still(BUSY, OUTSIDE, "paced(0, 0)", "paced(10, 100)");
        due.still(NEW, 2, "paced(1, 1)", "paced(9, 1)");
        due.still(CALM, 0, "paced(1, 99)", "paced(9, 99)");
        due.still(NEW.each(6, "land(%d, 0, 0)"), 6 * 99, "paced(1, 99)", "paced(9, 99)");
        // by 9 lands 0, 1 are dark for nine years
        due.still(NEW, 18, "paced(9, 9)");
        // by the PACE that it has, too: what is judged then
        for (int pace = 1; pace <= 9; pace++) {
            Scene own = BUSY.and("set(0, " + pace + ")", "wipe()");
            long judged = Calls.ask(own.pad(":::::::::.........").make(), "judge(3)");
            due.still(own, judged, "paced(" + pace + ", 99)");
            due.still(BUSY, judged, "paced(" + pace + ", 99)");
        }
    }

    private static void strike() {
        due.promise(20, "strike");
        due.still(BUSY, UNKNOWN, "strike(-1, 0, 0)", "strike(7, 0, 0)", "strike(MIN, 0, 0)", "strike(MAX, 0, 0)");
        due.still(BUSY, UNKNOWN, "strike(0, -1, 0)", "strike(0, 7, 0)", "strike(0, MIN, 0)", "strike(0, MAX, 0)");
        due.still(BUSY, UNKNOWN, "strike(7, 7, 0)", "strike(-1, 7, 0)", "strike(0, 0, 0)", "strike(6, 6, 0)");
        due.still(BUSY, UNKNOWN, "strike(7, 0, -1)", "strike(0, 7, 100000)", "strike(3, 3, -1)");
        due.still(BUSY, OUTSIDE, "strike(0, 6, -1)", "strike(6, 0, 100000)", "strike(0, 1, MIN)", "strike(0, 1, MAX)");
        // from t on: t itself too
        due.still(NEW, 0, "strike(5, 0, 0)", "strike(2, 1, 0)");
        due.still(NEW, 4, "strike(0, 5, 0)", "strike(0, 5, 4)");
        due.still(NEW, 12, "strike(0, 5, 5)");
        due.still(NEW, 99999, "strike(0, 1, 99999)");
        due.still(NEW, 100000, "strike(5, 0, 99999)");
        due.still(NEW, NONE, "strike(1, 0, 0)", "strike(1, 0, 99999)", "strike(4, 5, 0)");
        // both dark, both lit, at the other's cost alone
        Scene two = Scene.of("lands(2, 1)");
        due.still(two, 0, "strike(1, 0, 0)");
        due.still(two, 1, "strike(0, 1, 0)", "strike(0, 1, 1)");
        due.still(Scene.of("lands(9, 8)"), NONE, "strike(3, 4, 0)", "strike(3, 8, 0)");
        due.still(Scene.of("lands(9, 8)"), 0, "strike(8, 3, 0)");
        // lit by a slit
        due.still(Scene.of("lands(9, 8)", "set(2, 20)", "set(3, 1)", "set(4, 1)"), 17, "strike(3, 4, 0)");
        due.still(Scene.of("lands(9, 8)", "set(2, 20)", "set(3, 1)", "set(4, 1)"), 37, "strike(3, 4, 18)");
    }

    private static void strikes() {
        due.promise(21, "strikes");
        due.still(BUSY, UNKNOWN, "strikes(-1, 0, 0, 1)", "strikes(7, 0, 0, 1)", "strikes(MIN, 0, 0, 1)");
        due.still(BUSY, UNKNOWN, "strikes(0, -1, 0, 1)", "strikes(0, 7, 0, 1)", "strikes(0, MAX, 0, 1)");
        due.still(BUSY, UNKNOWN, "strikes(7, 7, 0, 1)", "strikes(0, 0, 0, 1)", "strikes(6, 6, 0, 0)");
        due.still(BUSY, UNKNOWN, "strikes(7, 0, -1, 1)", "strikes(0, 7, 0, -1)", "strikes(3, 3, -1, 10000)");
        due.still(BUSY, OUTSIDE, "strikes(0, 6, -1, 1)", "strikes(6, 0, 100000, 1)", "strikes(0, 1, MIN, 1)",
            "strikes(0, 1, MAX, 1)");
        due.still(BUSY, OUTSIDE, "strikes(0, 6, 0, -1)", "strikes(6, 0, 0, 10000)", "strikes(0, 1, 0, MIN)",
            "strikes(0, 1, 0, MAX)");
        due.still(NEW, 0, "strikes(5, 0, 0, 0)", "strikes(5, 0, 1, 7)", "strikes(1, 0, 0, 9999)");
        due.still(NEW, 1, "strikes(5, 0, 0, 1)", "strikes(5, 0, 0, 8)", "strikes(5, 0, 1, 8)", "strikes(5, 0, 99999, 2)");
        due.still(NEW, 2, "strikes(5, 0, 0, 9)");
        due.still(NEW, 1250, "strikes(5, 0, 0, 9999)", "strikes(5, 0, 99999, 9999)");
        due.still(Scene.of("lands(2, 1)"), 5000, "strikes(1, 0, 0, 9999)");
        due.still(Scene.of("lands(2, 1)"), 4999, "strikes(0, 1, 0, 9999)");
        due.still(Scene.of("lands(2, 1)"), 5000, "strikes(0, 1, 99999, 9999)");
    }
}
