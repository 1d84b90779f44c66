/** Lands under the shadow of a ring: what light is where, who is hungry, who walks unseen. */
public final class RingShadow {
    public static final int UNKNOWN = -1, OUTSIDE = -2, STATE = -3, FULL = -4, NO = -5, NONE = -6;
    public static final long GONE = -1000000000000000000L;

    private static final int MOST_LANDS = 9;
    private static final int MOST_WIDE = 8;
    private static final int MOST_PACE = 9;
    private static final int MOST_AGE = 99;
    private static final int MOST_STORE = 99;
    private static final int MOST_SIGNS = 60;
    private static final int MOST_SIGHTS = 8;
    private static final int IMAGES = 2;
    private static final int LAST_YEAR = 99999;
    private static final int LAST_SEEN_YEAR = 9999;
    private static final int LONG_SPAN = 9999;
    private static final int LIFE = 99;
    private static final int WALK = 30;
    private static final int NO_YEAR = -1;

    private static final int YIELD = 0, EAT = 1, STORE = 2, CAP = 3, KINDS = 4;
    private static final int PACE = 0, AGE = 1, SLITS = 2, SLIT_A = 3, SLIT_B = 4;
    private static final int SAME_LAND = 1, TOO_LITTLE = 2, TOO_MUCH = 3;

    private final World world;
    private final World[] images;
    private final Pad pad;
    private final Story story;
    private final Walk walk;
    private final Census census;
    private final Carrier carrier;
    private final Cloud cloud;

    public RingShadow() {
        world = new World();
        images = new World[IMAGES];
        pad = new Pad();
        story = new Story();
        walk = new Walk();
        census = new Census();
        carrier = new Carrier();
        cloud = new Cloud();
    }

    // ---- 1 lands, the shadow

    public int lands(int n, int w) {
        if (!within(n, 2, MOST_LANDS) || !within(w, 1, MOST_WIDE) || w >= n) {
            return OUTSIDE;
        }
        int before = world.shadow.lands;
        world.shadow.lands = n;
        world.shadow.wide = w;
        world.stock.begin();
        world.sights.count = 0;
        world.year = 0;
        return before;
    }

    public int set(int which, int v) {
        if (!mayRule(which, v)) {
            return OUTSIDE;
        }
        int before = world.shadow.rule(which);
        world.shadow.putRule(which, v);
        return before;
    }

    public int land(int land, int what, int v) {
        if (!hasLand(land)) {
            return UNKNOWN;
        }
        if (!within(what, YIELD, CAP) || !within(v, 0, what == YIELD || what == EAT ? 20 : MOST_STORE)) {
            return OUTSIDE;
        }
        Stock stock = world.stock;
        if (what == STORE && v > stock.of(land, CAP)) {
            return STATE;
        }
        int before = stock.of(land, what);
        stock.put(land, what, v);
        if (what == CAP) {
            stock.put(land, STORE, Math.min(stock.of(land, STORE), v));
        }
        return before;
    }

    public int say(int sign) {
        if (!within(sign, 33, 126)) {
            return OUTSIDE;
        }
        return pad.add((char) sign) ? pad.count : FULL;
    }

    public int wipe() {
        int before = pad.count;
        pad.count = 0;
        return before;
    }

    public int fault() {
        return pad.faultAmong(world.shadow.lands);
    }

    // ---- 2 years, light

    public int judge(int what) {
        if (!within(what, 0, 3)) {
            return OUTSIDE;
        }
        int refusal = tellPad();
        if (refusal == NO || refusal == STATE && what >= 2) {
            return refusal;
        }
        switch (what) {
            case 0:
                return story.badAct;
            case 1:
                return story.why;
            case 2:
                return story.years;
            default:
                return story.hungrySum;
        }
    }

    public int behind(int land, int what) {
        if (!hasLand(land)) {
            return UNKNOWN;
        }
        if (!within(what, 0, 2)) {
            return OUTSIDE;
        }
        int refusal = tellPad();
        if (refusal != 0) {
            return refusal;
        }
        if (what == 0) {
            return story.stock.of(land, STORE);
        }
        if (what == 1) {
            return at(story.hungry, land);
        }
        return story.shadow.isDark(land, story.year) ? 0 : 1;
    }

    public int done() {
        int refusal = tellPad();
        if (refusal != 0) {
            return refusal;
        }
        world.stock.takeFrom(story.stock);
        world.year = story.year;
        pad.count = 0;
        return story.acts;
    }

    public int lit(int land, int t) {
        if (!hasLand(land)) {
            return UNKNOWN;
        }
        if (!isYear(t)) {
            return OUTSIDE;
        }
        return world.shadow.isDark(land, t) ? 0 : 1;
    }

    public int covered(int t) {
        return isYear(t) ? world.shadow.firstAt(t) : OUTSIDE;
    }

    public int lits(int land, int t, int m) {
        if (!hasLand(land)) {
            return UNKNOWN;
        }
        if (!isYear(t) || !within(m, 0, 100000)) {
            return OUTSIDE;
        }
        Shadow shadow = world.shadow;
        int period = shadow.period();
        int inRest = shadow.countLit(land, t, leftOver(m, period));
        return m < period ? inRest : inRest + cut(m, period) * shadow.countLit(land, t, period);
    }

    public int next(int land, int t, boolean is) {
        if (!hasLand(land)) {
            return UNKNOWN;
        }
        if (!isYear(t)) {
            return OUTSIDE;
        }
        return world.shadow.firstYear(land, t, is);
    }

    public int longest(int land, int t, int m) {
        if (!hasLand(land)) {
            return UNKNOWN;
        }
        if (!isYear(t) || !within(m, 0, LONG_SPAN)) {
            return OUTSIDE;
        }
        return world.shadow.longestDark(land, t, m);
    }

    // ---- 3 stores

    public int hungry(int what) {
        if (!within(what, 0, 1)) {
            return OUTSIDE;
        }
        story.begin(world);
        story.passUntilHungry(LIFE);
        if (story.hungrySum == 0) {
            return NONE;
        }
        return what == 0 ? story.years : story.leastHungry();
    }

    public int needs(int land, int m) {
        if (!hasLand(land)) {
            return UNKNOWN;
        }
        if (!within(m, 1, LIFE)) {
            return OUTSIDE;
        }
        return world.needOf(land, m);
    }

    public int carry(int m) {
        return within(m, 1, 40) ? carrier.fewestSteps(world, m) : OUTSIDE;
    }

    public int paced(int pace, int m) {
        if (!within(pace, 1, MOST_PACE) || !within(m, 1, LIFE)) {
            return OUTSIDE;
        }
        story.begin(world);
        story.shadow.pace = pace;
        story.passYears(m);
        return story.hungrySum;
    }

    public int strike(int land, int other, int t) {
        if (!areTwoLands(land, other)) {
            return UNKNOWN;
        }
        if (!isYear(t)) {
            return OUTSIDE;
        }
        return world.shadow.firstStrike(land, other, t);
    }

    public int strikes(int land, int other, int t, int m) {
        if (!areTwoLands(land, other)) {
            return UNKNOWN;
        }
        if (!isYear(t) || !within(m, 0, LONG_SPAN)) {
            return OUTSIDE;
        }
        Shadow shadow = world.shadow;
        int period = shadow.period();
        int inRest = shadow.countStrikes(land, other, t, leftOver(m, period));
        return m < period ? inRest : inRest + cut(m, period) * shadow.countStrikes(land, other, t, period);
    }

    // ---- 4 walks, laws, dust

    public long ways(int from, int to, int t, int m) {
        if (!hasLand(from) || !hasLand(to)) {
            return GONE + UNKNOWN;
        }
        if (!isYear(t) || !within(m, 0, WALK)) {
            return GONE + OUTSIDE;
        }
        return walk.countWays(world.shadow, from, to, t, m);
    }

    public int where(int from, int t, int m) {
        if (!hasLand(from)) {
            return UNKNOWN;
        }
        if (!isYear(t) || !within(m, 0, WALK)) {
            return OUTSIDE;
        }
        Shadow shadow = world.shadow;
        int places = (1 << from) & shadow.darkAt(t);
        for (int i = 1; i <= m; i++) {
            places = beside(places) & shadow.darkAt(t + i);
        }
        return places;
    }

    public int meet(int from, int other, int t) {
        if (!hasLand(from) || !hasLand(other)) {
            return UNKNOWN;
        }
        if (!isYear(t)) {
            return OUTSIDE;
        }
        Shadow shadow = world.shadow;
        int dark = shadow.darkAt(t);
        int places = (1 << from) & dark;
        int others = (1 << other) & dark;
        for (int i = 0; i < WALK && (places & others) == 0; i++) {
            t++;
            dark = shadow.darkAt(t);
            places = beside(places) & dark;
            others = beside(others) & dark;
        }
        return (places & others) == 0 ? NONE : t;
    }

    public int seen(int land, int t, boolean covered) {
        if (!hasLand(land)) {
            return UNKNOWN;
        }
        if (!within(t, 0, LAST_SEEN_YEAR)) {
            return OUTSIDE;
        }
        return world.sights.add(land, t, covered) ? world.sights.count : FULL;
    }

    public int forget() {
        int before = world.sights.count;
        world.sights.count = 0;
        return before;
    }

    public int laws(int i) {
        if (i < -1) {
            return NONE;
        }
        census.take(world, i, NO_YEAR);
        return i == -1 ? census.count : census.law;
    }

    public int look(int t, int what) {
        if (!isYear(t) || !within(what, 0, 1)) {
            return OUTSIDE;
        }
        census.take(world, NONE, t);
        if (census.count == 0) {
            return NONE;
        }
        int land = census.bestLook(world.shadow.lands);
        return what == 0 ? land : census.leftAtMost(land);
    }

    public long dust(int land, int c, int m, int part) {
        if (!hasLand(land)) {
            return GONE + UNKNOWN;
        }
        if (!within(c, 0, 10) || !within(m, 0, 12) || !within(part, 0, 1)) {
            return GONE + OUTSIDE;
        }
        cloud.pass(world, land, c, m);
        long divisor = greatestDivisor(cloud.fed, cloud.whole);
        return part == 0 ? cut(cloud.fed, divisor) : cut(cloud.whole, divisor);
    }

    public int rent(int land, int t, int m, int v) {
        if (!hasLand(land)) {
            return UNKNOWN;
        }
        if (!isYear(t) || !within(m, 0, LONG_SPAN) || !within(v, 0, 99)) {
            return OUTSIDE;
        }
        return v * world.shadow.rentYears(land, t, m);
    }

    public int age(int seed, int m, int what) {
        if (!within(seed, 0, 9999) || !within(m, 1, LIFE) || !within(what, 0, 2)) {
            return OUTSIDE;
        }
        story.begin(world);
        story.drawYears(seed, m);
        if (what == 0) {
            return story.hungrySum;
        }
        return what == 1 ? story.stock.together(story.shadow.lands) : story.loans;
    }

    public int image(int k) {
        if (k < 0 || k >= images.length) {
            return OUTSIDE;
        }
        World kept = images[k];
        if (kept == null) {
            kept = new World();
            images[k] = kept;
        }
        kept.takeFrom(world);
        return 1;
    }

    public int restore(int k) {
        if (k < 0 || k >= images.length) {
            return OUTSIDE;
        }
        World kept = images[k];
        if (kept == null) {
            return STATE;
        }
        world.takeFrom(kept);
        return 1;
    }

    public int told(int what) {
        if (what >= 10) {
            int land = what / 10 - 1;
            int kind = what % 10;
            return hasLand(land) && kind < KINDS ? world.stock.of(land, kind) : OUTSIDE;
        }
        switch (what) {
            case 0:
                return pad.count;
            case 1:
                return world.shadow.lands;
            case 2:
                return world.shadow.wide;
            case 8:
                return world.year;
            case 9:
                return world.sights.count;
            default:
                return within(what, 3, 7) ? world.shadow.rule(what - 3) : OUTSIDE;
        }
    }

    // ---- what the calls share

    private boolean hasLand(int land) {
        return within(land, 0, world.shadow.lands - 1);
    }

    private boolean areTwoLands(int land, int other) {
        return hasLand(land) && hasLand(other) && land != other;
    }

    /** 0, or why the story on the pad can not be: NO for a fault, STATE for an act. */
    private int tellPad() {
        if (pad.faultAmong(world.shadow.lands) != NONE) {
            return NO;
        }
        story.begin(world);
        story.tell(pad);
        return story.badAct == NONE ? 0 : STATE;
    }

    private static boolean mayRule(int which, int v) {
        switch (which) {
            case PACE:
                return within(v, 1, MOST_PACE);
            case AGE:
                return within(v, 0, MOST_AGE);
            case SLITS:
                return v == 0 || within(v, 2, 20);
            case SLIT_A:
            case SLIT_B:
                return within(v, 0, 19);
            default:
                return false;
        }
    }

    private static boolean isYear(int t) {
        return within(t, 0, LAST_YEAR);
    }

    private static boolean within(int v, int least, int most) {
        return v >= least && v <= most;
    }

    /** Places one step away, or none; the caller cuts off what lies beyond the lands. */
    private static int beside(int places) {
        return places | (places << 1) | (places >> 1);
    }

    // An index or a divisor that was not looked at goes through these: the machine never refuses one.

    private static int at(int[] row, int i) {
        return i >= 0 && i < row.length ? row[i] : 0;
    }

    private static void put(int[] row, int i, int v) {
        if (i >= 0 && i < row.length) {
            row[i] = v;
        }
    }

    private static long at(long[] row, int i) {
        return i >= 0 && i < row.length ? row[i] : 0;
    }

    private static void add(long[] row, int i, long v) {
        if (i >= 0 && i < row.length) {
            row[i] += v;
        }
    }

    private static void copy(int[] from, int[] to) {
        for (int i = 0; i < from.length && i < to.length; i++) {
            to[i] = from[i];
        }
    }

    private static void clear(int[] row) {
        for (int i = 0; i < row.length; i++) {
            row[i] = 0;
        }
    }

    private static void clear(long[] row) {
        for (int i = 0; i < row.length; i++) {
            row[i] = 0;
        }
    }

    private static int cut(int upper, int lower) {
        return lower == 0 ? 0 : upper / lower;
    }

    private static long cut(long upper, long lower) {
        return lower == 0 ? 0 : upper / lower;
    }

    private static int leftOver(int upper, int lower) {
        return lower == 0 ? 0 : upper % lower;
    }

    private static long greatestDivisor(long one, long other) {
        // 100 rounds are more than Euclid needs for two longs.
        for (int i = 0; i < 100 && other != 0; i++) {
            long rest = one % other;
            one = other;
            other = rest;
        }
        return one;
    }

    /** Where the shadow lies and where it has slits, for any year from 0 on. */
    private static final class Shadow {
        int lands = 6;
        int wide = 2;
        int pace = 1;
        int age = 0;
        int slits = 0;
        int slitA = 1;
        int slitB = 1;

        void takeFrom(Shadow other) {
            lands = other.lands;
            wide = other.wide;
            pace = other.pace;
            age = other.age;
            slits = other.slits;
            slitA = other.slitA;
            slitB = other.slitB;
        }

        int rule(int which) {
            switch (which) {
                case PACE:
                    return pace;
                case AGE:
                    return age;
                case SLITS:
                    return slits;
                case SLIT_A:
                    return slitA;
                default:
                    return slitB;
            }
        }

        void putRule(int which, int v) {
            switch (which) {
                case PACE:
                    pace = v;
                    break;
                case AGE:
                    age = v;
                    break;
                case SLITS:
                    slits = v;
                    break;
                case SLIT_A:
                    slitA = v;
                    break;
                default:
                    slitB = v;
                    break;
            }
        }

        /** How many steps it takes the shadow to come back to where it was. */
        int turn() {
            return 2 * (lands - wide);
        }

        int firstAt(int year) {
            int free = lands - wide;
            if (pace < 1 || free < 1) {
                return 0;
            }
            int gone = (year + age) / pace % (2 * free);
            return gone > free ? 2 * free - gone : gone;
        }

        boolean covers(int land, int year) {
            int first = firstAt(year);
            return land >= first && land < first + wide;
        }

        boolean hasSlit(int land, int year) {
            return slits != 0 && (year * slitA + land * slitB) % slits == 0;
        }

        boolean isDark(int land, int year) {
            return covers(land, year) && !hasSlit(land, year);
        }

        boolean isStrike(int land, int other, int year) {
            return !isDark(land, year) && isDark(other, year);
        }

        /** The dark lands of a year, as bits. */
        int darkAt(int year) {
            int first = firstAt(year);
            int bits = 0;
            for (int land = first; land < first + wide; land++) {
                if (!hasSlit(land, year)) {
                    bits |= 1 << land;
                }
            }
            return bits;
        }

        /** After so many years all light is as it was: no look ahead needs to go further. */
        int period() {
            int round = turn() * pace;
            return slits == 0 ? round : round * cut(slits, (int) greatestDivisor(round, slits));
        }

        int countLit(int land, int from, int years) {
            int count = 0;
            for (int i = 0; i < years; i++) {
                if (!isDark(land, from + i)) {
                    count++;
                }
            }
            return count;
        }

        int countStrikes(int land, int other, int from, int years) {
            int count = 0;
            for (int i = 0; i < years; i++) {
                if (isStrike(land, other, from + i)) {
                    count++;
                }
            }
            return count;
        }

        int firstYear(int land, int from, boolean isLit) {
            int period = period();
            for (int i = 0; i < period; i++) {
                if (isDark(land, from + i) != isLit) {
                    return from + i;
                }
            }
            return NONE;
        }

        int firstStrike(int land, int other, int from) {
            int period = period();
            for (int i = 0; i < period; i++) {
                if (isStrike(land, other, from + i)) {
                    return from + i;
                }
            }
            return NONE;
        }

        int longestDark(int land, int from, int years) {
            int period = period();
            // A night that ends is shorter than a period, so two periods hold the longest one whole.
            int span = Math.min(years, 2 * period);
            int longest = 0;
            int night = 0;
            for (int i = 0; i < span; i++) {
                night = isDark(land, from + i) ? night + 1 : 0;
                longest = Math.max(longest, night);
            }
            return longest >= period ? years : longest;
        }

        /** The years to pay for, each slit's own night at most 9 of them. */
        int rentYears(int land, int from, int years) {
            if (slits == 0) {
                return 0;
            }
            int early = Math.max(0, Math.min(years, 9 - from));
            int late = years - early;
            int start = from + early;
            int period = period();
            // From year 9 on no night is cut short by year 0, so the rents have a period too.
            int sum = nightsPaid(land, from, early) + nightsPaid(land, start, leftOver(late, period));
            return late < period ? sum : sum + cut(late, period) * nightsPaid(land, start, period);
        }

        int nightsPaid(int land, int from, int years) {
            int sum = 0;
            for (int year = from; year < from + years; year++) {
                if (hasSlit(land, year) && covers(land, year)) {
                    sum += nightAhead(land, year);
                }
            }
            return sum;
        }

        int nightAhead(int land, int year) {
            int night = 0;
            while (night < 9 && year - night >= 1 && isDark(land, year - night - 1)) {
                night++;
            }
            return night;
        }
    }

    /** What the lands yield, eat, store and can hold. */
    private static final class Stock {
        final int[] cells;

        Stock() {
            cells = new int[KINDS * MOST_LANDS];
            begin();
        }

        void begin() {
            for (int land = 0; land < MOST_LANDS; land++) {
                put(land, YIELD, 3);
                put(land, EAT, 2);
                put(land, STORE, 0);
                put(land, CAP, 50);
            }
        }

        void takeFrom(Stock other) {
            copy(other.cells, cells);
        }

        int of(int land, int kind) {
            int i = KINDS * land + kind;
            return i >= 0 && i < cells.length ? cells[i] : 0;
        }

        void put(int land, int kind, int v) {
            int i = KINDS * land + kind;
            if (i >= 0 && i < cells.length) {
                cells[i] = v;
            }
        }

        int together(int lands) {
            int sum = 0;
            for (int land = 0; land < lands; land++) {
                sum += of(land, STORE);
            }
            return sum;
        }

        /** A year of one land: whether it is hungry. */
        boolean feed(int land, boolean isLit) {
            int has = of(land, STORE) - of(land, EAT) + (isLit ? of(land, YIELD) : 0);
            put(land, STORE, Math.max(0, Math.min(has, of(land, CAP))));
            return has < 0;
        }

        /** 0 if it was lent, or why it can not be. */
        int lend(int from, int to, int much) {
            if (from == to) {
                return SAME_LAND;
            }
            int left = of(from, STORE) - much;
            int grown = of(to, STORE) + much;
            if (left < 0) {
                return TOO_LITTLE;
            }
            if (grown > of(to, CAP)) {
                return TOO_MUCH;
            }
            put(from, STORE, left);
            put(to, STORE, grown);
            return 0;
        }
    }

    /** In which years which lands were seen covered, or not. */
    private static final class Sights {
        final int[] lands;
        final int[] years;
        final int[] covers;
        int count;

        Sights() {
            lands = new int[MOST_SIGHTS];
            years = new int[MOST_SIGHTS];
            covers = new int[MOST_SIGHTS];
        }

        void takeFrom(Sights other) {
            copy(other.lands, lands);
            copy(other.years, years);
            copy(other.covers, covers);
            count = other.count;
        }

        boolean add(int land, int year, boolean isCovered) {
            if (count >= MOST_SIGHTS) {
                return false;
            }
            put(lands, count, land);
            put(years, count, year);
            put(covers, count, isCovered ? 1 : 0);
            count++;
            return true;
        }

        boolean fit(Shadow law) {
            for (int i = 0; i < count; i++) {
                if (law.covers(at(lands, i), at(years, i)) != (at(covers, i) == 1)) {
                    return false;
                }
            }
            return true;
        }
    }

    /** All that an image keeps. */
    private static final class World {
        final Shadow shadow;
        final Stock stock;
        final Sights sights;
        int year;

        World() {
            shadow = new Shadow();
            stock = new Stock();
            sights = new Sights();
        }

        void takeFrom(World other) {
            shadow.takeFrom(other.shadow);
            stock.takeFrom(other.stock);
            sights.takeFrom(other.sights);
            year = other.year;
        }

        /** Told from the last year back: what must be there at its end must be had at its start. */
        int needOf(int land, int years) {
            int cap = stock.of(land, CAP);
            int need = 0;
            for (int i = years - 1; i >= 0; i--) {
                int gain = shadow.isDark(land, year + i) ? 0 : stock.of(land, YIELD);
                need = Math.max(0, need + stock.of(land, EAT) - gain);
                if (need > cap) {
                    return NONE;
                }
            }
            return need;
        }
    }

    /** The text of acts. */
    private static final class Pad {
        final char[] signs;
        int count;

        Pad() {
            signs = new char[MOST_SIGNS];
        }

        boolean add(char sign) {
            if (count < 0 || count >= signs.length) {
                return false;
            }
            signs[count] = sign;
            count++;
            return true;
        }

        char signAt(int i) {
            return i >= 0 && i < signs.length ? signs[i] : ' ';
        }

        int landAt(int i) {
            return signAt(i) - 'a';
        }

        int digitAt(int i) {
            return signAt(i) - '0';
        }

        boolean isYears(int i) {
            return signAt(i) == '.' || signAt(i) == ':';
        }

        int faultAmong(int lands) {
            int part = 0;
            for (int i = 0; i < count; i++) {
                if (part == 2) {
                    if (!within(digitAt(i), 1, 9)) {
                        return i;
                    }
                    part = 0;
                } else if (part == 1 || !isYears(i)) {
                    if (!within(landAt(i), 0, lands - 1)) {
                        return i;
                    }
                    part++;
                }
            }
            return part == 0 ? NONE : count;
        }
    }

    /** Years told without being done: all of the world that years change, and what came of it. */
    private static final class Story {
        final Shadow shadow;
        final Stock stock;
        final int[] hungry;
        int year;
        int years;
        int hungrySum;
        int acts;
        int badAct;
        int why;
        int loans;

        Story() {
            shadow = new Shadow();
            stock = new Stock();
            hungry = new int[MOST_LANDS];
        }

        void begin(World world) {
            shadow.takeFrom(world.shadow);
            stock.takeFrom(world.stock);
            clear(hungry);
            year = world.year;
            years = 0;
            hungrySum = 0;
            acts = 0;
            badAct = NONE;
            why = NONE;
            loans = 0;
        }

        void passYear() {
            int dark = shadow.darkAt(year);
            for (int land = 0; land < shadow.lands; land++) {
                if (stock.feed(land, ((dark >> land) & 1) == 0)) {
                    put(hungry, land, at(hungry, land) + 1);
                    hungrySum++;
                }
            }
            year++;
            years++;
        }

        void passYears(int many) {
            for (int i = 0; i < many; i++) {
                passYear();
            }
        }

        void passUntilHungry(int most) {
            for (int i = 0; i < most && hungrySum == 0; i++) {
                passYear();
            }
        }

        int leastHungry() {
            for (int land = 0; land < hungry.length; land++) {
                if (hungry[land] > 0) {
                    return land;
                }
            }
            return NONE;
        }

        /** The pad has no fault: else its acts are not to be told apart. */
        void tell(Pad pad) {
            int i = 0;
            while (i < pad.count && badAct == NONE) {
                if (pad.isYears(i)) {
                    passYears(pad.signAt(i) == '.' ? 1 : 10);
                    i++;
                } else {
                    int refusal = stock.lend(pad.landAt(i), pad.landAt(i + 1), pad.digitAt(i + 2));
                    if (refusal != 0) {
                        badAct = acts;
                        why = refusal;
                    }
                    i += 3;
                }
                acts++;
            }
        }

        void drawYears(int seed, int many) {
            int x = seed;
            int lands = shadow.lands;
            for (int i = 0; i < many; i++) {
                x = (75 * x + 74) % 65537;
                if (stock.lend(leftOver(x, lands), leftOver(x / 9, lands), 1 + x / 81 % 5) == 0) {
                    loans++;
                }
                passYear();
            }
        }
    }

    /** In how many ways one who walks unseen can have come to each land. */
    private static final class Walk {
        final long[] first;
        final long[] second;

        Walk() {
            first = new long[MOST_LANDS];
            second = new long[MOST_LANDS];
        }

        long countWays(Shadow shadow, int from, int to, int year, int years) {
            long[] now = first;
            long[] then = second;
            clear(now);
            add(now, from, shadow.isDark(from, year) ? 1 : 0);
            for (int i = 1; i <= years; i++) {
                step(now, then, shadow.darkAt(year + i));
                long[] used = now;
                now = then;
                then = used;
            }
            return at(now, to);
        }

        static void step(long[] now, long[] then, int dark) {
            clear(then);
            for (int land = 0; land < MOST_LANDS; land++) {
                if (((dark >> land) & 1) == 1) {
                    add(then, land, at(now, land - 1) + at(now, land) + at(now, land + 1));
                }
            }
        }
    }

    /** The laws that fit all sights. */
    private static final class Census {
        final Shadow trial;
        final int[] covering;
        int count;
        int law;

        Census() {
            trial = new Shadow();
            covering = new int[MOST_LANDS];
        }

        /** Counts all laws, keeps the wanted one and, if a year is told, how many cover each land in it. */
        void take(World world, int wanted, int year) {
            count = 0;
            law = NONE;
            clear(covering);
            trial.lands = world.shadow.lands;
            for (int wide = 1; wide < trial.lands && wide <= MOST_WIDE; wide++) {
                for (int pace = 1; pace <= MOST_PACE; pace++) {
                    trial.wide = wide;
                    trial.pace = pace;
                    takeAges(world.sights, wanted, year);
                }
            }
        }

        void takeAges(Sights sights, int wanted, int year) {
            int ages = Math.min(trial.turn() * trial.pace, MOST_AGE + 1);
            for (int age = 0; age < ages; age++) {
                trial.age = age;
                if (sights.fit(trial)) {
                    if (count == wanted) {
                        law = 1000 * trial.wide + 100 * trial.pace + age;
                    }
                    if (year != NO_YEAR) {
                        countCovered(trial.firstAt(year));
                    }
                    count++;
                }
            }
        }

        void countCovered(int first) {
            for (int land = first; land < first + trial.wide; land++) {
                put(covering, land, at(covering, land) + 1);
            }
        }

        int leftAtMost(int land) {
            int covered = at(covering, land);
            return Math.max(covered, count - covered);
        }

        int bestLook(int lands) {
            int best = 0;
            for (int land = 1; land < lands; land++) {
                if (leftAtMost(land) < leftAtMost(best)) {
                    best = land;
                }
            }
            return best;
        }
    }

    /** The fewest steps to carry the stores so that each land has what it needs. */
    private static final class Carrier {
        final int[] first;
        final int[] second;

        Carrier() {
            first = new int[MOST_LANDS * MOST_STORE + 1];
            second = new int[MOST_LANDS * MOST_STORE + 1];
        }

        /**
         * Land by land, steps[p] is the fewest steps if the lands so far keep p together: what
         * they had more or less than p crosses to the next land.
         */
        int fewestSteps(World world, int years) {
            Stock stock = world.stock;
            int total = stock.together(world.shadow.lands);
            int[] steps = first;
            int[] then = second;
            int low = 0;
            int high = 0;
            put(steps, 0, 0);
            for (int land = 0; land < world.shadow.lands; land++) {
                int need = world.needOf(land, years);
                if (need == NONE || low + need > total) {
                    return NONE;
                }
                int cap = stock.of(land, CAP);
                int best = cheapest(steps, low, high);
                low += need;
                high = Math.min(high + cap, total);
                int had = stock.together(land + 1);
                for (int kept = low; kept <= high; kept++) {
                    int before = nearest(best, kept - cap, kept - need);
                    put(then, kept, at(steps, before) + Math.abs(kept - had));
                }
                int[] used = steps;
                steps = then;
                then = used;
            }
            return high == total ? at(steps, total) : NONE;
        }

        static int cheapest(int[] steps, int low, int high) {
            int best = low;
            for (int kept = low + 1; kept <= high; kept++) {
                if (at(steps, kept) < at(steps, best)) {
                    best = kept;
                }
            }
            return best;
        }

        /** The steps fall to the cheapest and rise behind it, so of a range the nearest to it is best. */
        static int nearest(int best, int least, int most) {
            return Math.max(least, Math.min(best, most));
        }
    }

    /** By how many of all equally likely skies a land is fed, told by what it stores. */
    private static final class Cloud {
        final long[] first;
        final long[] second;
        long fed;
        long whole;

        Cloud() {
            first = new long[MOST_STORE + 1];
            second = new long[MOST_STORE + 1];
        }

        void pass(World world, int land, int tenths, int years) {
            long[] now = first;
            long[] then = second;
            clear(now);
            add(now, world.stock.of(land, STORE), 1);
            whole = 1;
            for (int i = 0; i < years; i++) {
                clear(then);
                if (world.shadow.isDark(land, world.year + i)) {
                    spread(now, then, world.stock, land, false, 1);
                } else {
                    spread(now, then, world.stock, land, true, 10 - tenths);
                    spread(now, then, world.stock, land, false, tenths);
                    whole *= 10;
                }
                long[] used = now;
                now = then;
                then = used;
            }
            fed = 0;
            for (int store = 0; store < now.length; store++) {
                fed += now[store];
            }
        }

        static void spread(long[] now, long[] then, Stock stock, int land, boolean isLit, int weight) {
            int gain = (isLit ? stock.of(land, YIELD) : 0) - stock.of(land, EAT);
            int cap = stock.of(land, CAP);
            for (int store = 0; store < now.length; store++) {
                if (now[store] != 0 && store + gain >= 0) {
                    add(then, Math.min(store + gain, cap), now[store] * weight);
                }
            }
        }
    }
}
