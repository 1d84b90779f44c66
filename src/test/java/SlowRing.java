import java.math.BigInteger;
import java.util.ArrayList;
import java.util.Arrays;
import java.util.List;

/** The document once more, as slow and as plain as can be, to be compared with RingShadow. */
final class SlowRing {
    static final int UNKNOWN = -1, OUTSIDE = -2, STATE = -3, FULL = -4, NO = -5, NONE = -6;
    static final long GONE = -1000000000000000000L;

    private record Sight(int land, int year, boolean covered) { }

    private record Law(int w, int pace, int age) { }

    /** All that an image keeps; copied whole. */
    private static final class All {
        int n = 6, w = 2, pace = 1, age = 0, m = 0, a = 1, b = 1, year = 0;
        int[] yield = fill(3), eat = fill(2), store = fill(0), cap = fill(50);
        List<Sight> sights = new ArrayList<>();

        private static int[] fill(int v) {
            int[] row = new int[9];
            Arrays.fill(row, v);
            return row;
        }

        All copy() {
            All c = new All();
            c.n = n;
            c.w = w;
            c.pace = pace;
            c.age = age;
            c.m = m;
            c.a = a;
            c.b = b;
            c.year = year;
            c.yield = yield.clone();
            c.eat = eat.clone();
            c.store = store.clone();
            c.cap = cap.clone();
            c.sights = new ArrayList<>(sights);
            return c;
        }

        boolean isCovered(int k, int t) {
            return covers(n, new Law(w, pace, age), k, t);
        }

        boolean isSlit(int k, int t) {
            return m != 0 && (t * a + k * b) % m == 0;
        }

        boolean isLit(int k, int t) {
            return !isCovered(k, t) || isSlit(k, t);
        }

        /** How many lands are hungry in a year; whose, is counted in the row. */
        int year(int[] hungry) {
            int count = 0;
            for (int k = 0; k < n; k++) {
                if (isLit(k, year)) {
                    store[k] += yield[k];
                }
                if (store[k] < eat[k]) {
                    store[k] = 0;
                    hungry[k]++;
                    count++;
                } else {
                    store[k] -= eat[k];
                }
                if (store[k] > cap[k]) {
                    store[k] = cap[k];
                }
            }
            year++;
            return count;
        }

        int whyNot(int from, int to, int much) {
            if (from == to) {
                return 1;
            }
            if (store[from] < much) {
                return 2;
            }
            return store[to] + much > cap[to] ? 3 : 0;
        }

        void lend(int from, int to, int much) {
            store[from] -= much;
            store[to] += much;
        }
    }

    private All now = new All();
    private String pad = "";
    private final All[] images = new All[2];

    static int first(int n, Law law, int t) {
        int top = n - law.w;
        int[] round = new int[2 * top];
        for (int i = 0; i < round.length; i++) {
            round[i] = i <= top ? i : 2 * top - i;
        }
        return round[(t + law.age) / law.pace % round.length];
    }

    static boolean covers(int n, Law law, int k, int t) {
        int first = first(n, law, t);
        return first <= k && k <= first + law.w - 1;
    }

    private static boolean out(int v, int least, int most) {
        return v < least || v > most;
    }

    private boolean no(int land) {
        return out(land, 0, now.n - 1);
    }

    int lands(int n, int w) {
        if (out(n, 2, 9) || out(w, 1, 8) || w >= n) {
            return OUTSIDE;
        }
        int was = now.n;
        All fresh = new All();
        fresh.n = n;
        fresh.w = w;
        fresh.pace = now.pace;
        fresh.age = now.age;
        fresh.m = now.m;
        fresh.a = now.a;
        fresh.b = now.b;
        now = fresh;
        return was;
    }

    int set(int which, int v) {
        int was;
        if (which == 0 && !out(v, 1, 9)) {
            was = now.pace;
            now.pace = v;
        } else if (which == 1 && !out(v, 0, 99)) {
            was = now.age;
            now.age = v;
        } else if (which == 2 && (v == 0 || !out(v, 2, 20))) {
            was = now.m;
            now.m = v;
        } else if (which == 3 && !out(v, 0, 19)) {
            was = now.a;
            now.a = v;
        } else if (which == 4 && !out(v, 0, 19)) {
            was = now.b;
            now.b = v;
        } else {
            was = OUTSIDE;
        }
        return was;
    }

    int land(int land, int what, int v) {
        if (no(land)) {
            return UNKNOWN;
        }
        if (out(what, 0, 3) || out(v, 0, what < 2 ? 20 : 99)) {
            return OUTSIDE;
        }
        if (what == 2 && v > now.cap[land]) {
            return STATE;
        }
        int[] row = what == 0 ? now.yield : what == 1 ? now.eat : what == 2 ? now.store : now.cap;
        int was = row[land];
        row[land] = v;
        now.store[land] = Math.min(now.store[land], now.cap[land]);
        return was;
    }

    int say(int sign) {
        if (out(sign, 33, 126)) {
            return OUTSIDE;
        }
        if (pad.length() == 60) {
            return FULL;
        }
        pad += (char) sign;
        return pad.length();
    }

    int wipe() {
        int was = pad.length();
        pad = "";
        return was;
    }

    int fault() {
        char last = (char) ('a' + now.n - 1);
        String letter = "[a-" + last + "]";
        String whole = "([.:]|" + letter + letter + "[1-9])*";
        String begun = whole + "(" + letter + letter + "?)?";
        if (pad.matches(whole)) {
            return NONE;
        }
        for (int i = 0; i < pad.length(); i++) {
            if (!pad.substring(0, i + 1).matches(begun)) {
                return i;
            }
        }
        return pad.length();
    }

    /** {refusal or 0, bad act, why, years, hungry, acts}; the rows tell the rest. */
    private int[] tell(All all, int[] hungry) {
        if (fault() != NONE) {
            return new int[] {NO, 0, 0, 0, 0, 0};
        }
        int acts = 0;
        int years = 0;
        int sum = 0;
        String rest = pad;
        while (!rest.isEmpty()) {
            if (rest.charAt(0) == '.' || rest.charAt(0) == ':') {
                int many = rest.charAt(0) == '.' ? 1 : 10;
                for (int i = 0; i < many; i++) {
                    sum += all.year(hungry);
                }
                years += many;
                rest = rest.substring(1);
            } else {
                int from = rest.charAt(0) - 'a';
                int to = rest.charAt(1) - 'a';
                int much = rest.charAt(2) - '0';
                int why = all.whyNot(from, to, much);
                if (why != 0) {
                    return new int[] {STATE, acts, why, 0, 0, 0};
                }
                all.lend(from, to, much);
                rest = rest.substring(3);
            }
            acts++;
        }
        return new int[] {0, NONE, NONE, years, sum, acts};
    }

    int judge(int what) {
        if (out(what, 0, 3)) {
            return OUTSIDE;
        }
        int[] told = tell(now.copy(), new int[9]);
        if (told[0] == NO || what >= 2 && told[0] == STATE) {
            return told[0];
        }
        return told[1 + what];
    }

    int behind(int land, int what) {
        if (no(land)) {
            return UNKNOWN;
        }
        if (out(what, 0, 2)) {
            return OUTSIDE;
        }
        All all = now.copy();
        int[] hungry = new int[9];
        int[] told = tell(all, hungry);
        if (told[0] != 0) {
            return told[0];
        }
        return what == 0 ? all.store[land] : what == 1 ? hungry[land] : all.isLit(land, all.year) ? 1 : 0;
    }

    int done() {
        All all = now.copy();
        int[] told = tell(all, new int[9]);
        if (told[0] != 0) {
            return told[0];
        }
        now = all;
        pad = "";
        return told[5];
    }

    int lit(int land, int t) {
        return no(land) ? UNKNOWN : out(t, 0, 99999) ? OUTSIDE : now.isLit(land, t) ? 1 : 0;
    }

    int covered(int t) {
        return out(t, 0, 99999) ? OUTSIDE : first(now.n, new Law(now.w, now.pace, now.age), t);
    }

    int lits(int land, int t, int m) {
        if (no(land)) {
            return UNKNOWN;
        }
        if (out(t, 0, 99999) || out(m, 0, 100000)) {
            return OUTSIDE;
        }
        int count = 0;
        for (int i = 0; i < m; i++) {
            if (now.isLit(land, t + i)) {
                count++;
            }
        }
        return count;
    }

    int next(int land, int t, boolean is) {
        if (no(land)) {
            return UNKNOWN;
        }
        if (out(t, 0, 99999)) {
            return OUTSIDE;
        }
        for (int i = 0; i < 3000; i++) {
            if (now.isLit(land, t + i) == is) {
                return t + i;
            }
        }
        return NONE;
    }

    int longest(int land, int t, int m) {
        if (no(land)) {
            return UNKNOWN;
        }
        if (out(t, 0, 99999) || out(m, 0, 9999)) {
            return OUTSIDE;
        }
        int best = 0;
        int run = 0;
        for (int i = 0; i < m; i++) {
            run = now.isLit(land, t + i) ? 0 : run + 1;
            best = Math.max(best, run);
        }
        return best;
    }

    int hungry(int what) {
        if (out(what, 0, 1)) {
            return OUTSIDE;
        }
        All all = now.copy();
        for (int i = 1; i <= 99; i++) {
            int[] row = new int[9];
            if (all.year(row) > 0) {
                int land = 0;
                while (row[land] == 0) {
                    land++;
                }
                return what == 0 ? i : land;
            }
        }
        return NONE;
    }

    int needs(int land, int m) {
        if (no(land)) {
            return UNKNOWN;
        }
        if (out(m, 1, 99)) {
            return OUTSIDE;
        }
        for (int s = 0; s <= now.cap[land]; s++) {
            All all = now.copy();
            all.store[land] = s;
            int[] hungry = new int[9];
            for (int i = 0; i < m; i++) {
                all.year(hungry);
            }
            if (hungry[land] == 0) {
                return s;
            }
        }
        return NONE;
    }

    int carry(int m) {
        if (out(m, 1, 40)) {
            return OUTSIDE;
        }
        int total = 0;
        for (int k = 0; k < now.n; k++) {
            total += now.store[k];
        }
        int far = 1000000;
        int[] cost = new int[total + 1];
        Arrays.fill(cost, far);
        cost[0] = 0;
        int had = 0;
        for (int k = 0; k < now.n; k++) {
            int need = needs(k, m);
            if (need == NONE) {
                return NONE;
            }
            had += now.store[k];
            int[] then = new int[total + 1];
            Arrays.fill(then, far);
            for (int p = 0; p <= total; p++) {
                for (int x = need; x <= now.cap[k] && x <= p; x++) {
                    then[p] = Math.min(then[p], cost[p - x] + Math.abs(p - had));
                }
            }
            cost = then;
        }
        return cost[total] >= far ? NONE : cost[total];
    }

    int paced(int pace, int m) {
        if (out(pace, 1, 9) || out(m, 1, 99)) {
            return OUTSIDE;
        }
        All all = now.copy();
        all.pace = pace;
        int sum = 0;
        for (int i = 0; i < m; i++) {
            sum += all.year(new int[9]);
        }
        return sum;
    }

    int strike(int land, int other, int t) {
        if (no(land) || no(other) || land == other) {
            return UNKNOWN;
        }
        if (out(t, 0, 99999)) {
            return OUTSIDE;
        }
        for (int i = 0; i < 3000; i++) {
            if (now.isLit(land, t + i) && !now.isLit(other, t + i)) {
                return t + i;
            }
        }
        return NONE;
    }

    int strikes(int land, int other, int t, int m) {
        if (no(land) || no(other) || land == other) {
            return UNKNOWN;
        }
        if (out(t, 0, 99999) || out(m, 0, 9999)) {
            return OUTSIDE;
        }
        int count = 0;
        for (int i = 0; i < m; i++) {
            if (now.isLit(land, t + i) && !now.isLit(other, t + i)) {
                count++;
            }
        }
        return count;
    }

    /** In how many ways from a land in a year to another, told from behind: known[left][land]. */
    private long waysTo(int from, int to, int t, int left, long[][] known) {
        if (no(from) || now.isLit(from, t)) {
            return 0;
        }
        if (left == 0) {
            return from == to ? 1 : 0;
        }
        if (known[left][from] < 0) {
            known[left][from] = waysTo(from - 1, to, t + 1, left - 1, known)
                + waysTo(from, to, t + 1, left - 1, known) + waysTo(from + 1, to, t + 1, left - 1, known);
        }
        return known[left][from];
    }

    long ways(int from, int to, int t, int m) {
        if (no(from) || no(to)) {
            return GONE - 1;
        }
        if (out(t, 0, 99999) || out(m, 0, 30)) {
            return GONE - 2;
        }
        long[][] known = new long[31][9];
        for (long[] row : known) {
            Arrays.fill(row, -1);
        }
        return waysTo(from, to, t, m, known);
    }

    int where(int from, int t, int m) {
        if (no(from)) {
            return UNKNOWN;
        }
        if (out(t, 0, 99999) || out(m, 0, 30)) {
            return OUTSIDE;
        }
        int bits = 0;
        for (int k = 0; k < now.n; k++) {
            if (ways(from, k, t, m) > 0) {
                bits += 1 << k;
            }
        }
        return bits;
    }

    int meet(int from, int other, int t) {
        if (no(from) || no(other)) {
            return UNKNOWN;
        }
        if (out(t, 0, 99999)) {
            return OUTSIDE;
        }
        for (int m = 0; m <= 30; m++) {
            for (int k = 0; k < now.n; k++) {
                if (ways(from, k, t, m) > 0 && ways(other, k, t, m) > 0) {
                    return t + m;
                }
            }
        }
        return NONE;
    }

    int seen(int land, int t, boolean covered) {
        if (no(land)) {
            return UNKNOWN;
        }
        if (out(t, 0, 9999)) {
            return OUTSIDE;
        }
        if (now.sights.size() == 8) {
            return FULL;
        }
        now.sights.add(new Sight(land, t, covered));
        return now.sights.size();
    }

    int forget() {
        int was = now.sights.size();
        now.sights.clear();
        return was;
    }

    private List<Law> lawsThatFit() {
        List<Law> fit = new ArrayList<>();
        for (int w = 1; w <= 8 && w < now.n; w++) {
            for (int pace = 1; pace <= 9; pace++) {
                for (int age = 0; age < 100 && age < 2 * (now.n - w) * pace; age++) {
                    Law law = new Law(w, pace, age);
                    int n = now.n;
                    if (now.sights.stream().allMatch(s -> covers(n, law, s.land, s.year) == s.covered)) {
                        fit.add(law);
                    }
                }
            }
        }
        return fit;
    }

    int laws(int i) {
        List<Law> fit = lawsThatFit();
        if (i == -1) {
            return fit.size();
        }
        if (i < 0 || i >= fit.size()) {
            return NONE;
        }
        Law law = fit.get(i);
        return 1000 * law.w + 100 * law.pace + law.age;
    }

    int look(int t, int what) {
        if (out(t, 0, 99999) || out(what, 0, 1)) {
            return OUTSIDE;
        }
        List<Law> fit = lawsThatFit();
        if (fit.isEmpty()) {
            return NONE;
        }
        int land = -1;
        int least = Integer.MAX_VALUE;
        for (int k = 0; k < now.n; k++) {
            int yes = 0;
            for (Law law : fit) {
                yes += covers(now.n, law, k, t) ? 1 : 0;
            }
            int left = Math.max(yes, fit.size() - yes);
            if (left < least) {
                least = left;
                land = k;
            }
        }
        return what == 0 ? land : least;
    }

    /** Of 10^(years left) skies those in which the land is never hungry. */
    private long fed(int land, int c, int t, int left, int store) {
        if (left == 0) {
            return 1;
        }
        int eat = now.eat[land];
        int cap = now.cap[land];
        int more = store + now.yield[land];
        long whenLit = more < eat ? 0 : fed(land, c, t + 1, left - 1, Math.min(cap, more - eat));
        long whenDark = store < eat ? 0 : fed(land, c, t + 1, left - 1, Math.min(cap, store - eat));
        return now.isLit(land, t) ? (10 - c) * whenLit + c * whenDark : 10 * whenDark;
    }

    long dust(int land, int c, int m, int part) {
        if (no(land)) {
            return GONE - 1;
        }
        if (out(c, 0, 10) || out(m, 0, 12) || out(part, 0, 1)) {
            return GONE - 2;
        }
        BigInteger upper = BigInteger.valueOf(fed(land, c, now.year, m, now.store[land]));
        BigInteger lower = BigInteger.TEN.pow(m);
        BigInteger by = upper.gcd(lower);
        return (part == 0 ? upper : lower).divide(by).longValueExact();
    }

    int rent(int land, int t, int m, int v) {
        if (no(land)) {
            return UNKNOWN;
        }
        if (out(t, 0, 99999) || out(m, 0, 9999) || out(v, 0, 99)) {
            return OUTSIDE;
        }
        int sum = 0;
        for (int y = t; y < t + m; y++) {
            if (now.isCovered(land, y) && now.isLit(land, y)) {
                int dark = 0;
                for (int before = y - 1; before >= 0 && dark < 9 && !now.isLit(land, before); before--) {
                    dark++;
                }
                sum += v * dark;
            }
        }
        return sum;
    }

    int age(int seed, int m, int what) {
        if (out(seed, 0, 9999) || out(m, 1, 99) || out(what, 0, 2)) {
            return OUTSIDE;
        }
        All all = now.copy();
        int hungry = 0;
        int lent = 0;
        int x = seed;
        for (int i = 0; i < m; i++) {
            x = (75 * x + 74) % 65537;
            int from = x % all.n;
            int to = x / 9 % all.n;
            int much = 1 + x / 81 % 5;
            if (all.whyNot(from, to, much) == 0) {
                all.lend(from, to, much);
                lent++;
            }
            hungry += all.year(new int[9]);
        }
        return what == 0 ? hungry : what == 1 ? Arrays.stream(all.store, 0, all.n).sum() : lent;
    }

    int image(int k) {
        if (out(k, 0, 1)) {
            return OUTSIDE;
        }
        images[k] = now.copy();
        return 1;
    }

    int restore(int k) {
        if (out(k, 0, 1)) {
            return OUTSIDE;
        }
        if (images[k] == null) {
            return STATE;
        }
        now = images[k].copy();
        return 1;
    }

    int told(int what) {
        int[] first = {pad.length(), now.n, now.w, now.pace, now.age, now.m, now.a, now.b, now.year, now.sights.size()};
        if (what >= 0 && what < 10) {
            return first[what];
        }
        for (int k = 0; k < now.n; k++) {
            int[] row = {now.yield[k], now.eat[k], now.store[k], now.cap[k]};
            for (int i = 0; i < 4; i++) {
                if (what == 10 * (1 + k) + i) {
                    return row[i];
                }
            }
        }
        return OUTSIDE;
    }
}
