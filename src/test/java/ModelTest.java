import java.util.ArrayList;
import java.util.List;
import java.util.Random;

/** Random runs of calls, some as long as an object is used, on RingShadow and on SlowRing, which must answer alike. */
public final class ModelTest {
    private static final String[] CALLS = {"lands", "set", "land", "say", "wipe", "fault", "judge", "behind", "done",
        "lit", "covered", "lits", "next", "longest", "hungry", "needs", "carry", "paced", "strike", "strikes", "ways",
        "where", "meet", "seen", "forget", "laws", "look", "dust", "rent", "age", "image", "restore", "told"};
    private static final int[] EXTREMES = {Integer.MIN_VALUE, Integer.MIN_VALUE + 1, -1000, -10, -7, -6, -5, -4, -3,
        -2, -1, 0, 1, 100, 1000, 65536, 100000, 100001, 1 << 30, Integer.MAX_VALUE - 1, Integer.MAX_VALUE};
    private static final int RUNS = 6000;
    /** An object is used for so many calls at most; the last of them ask for all that is told. */
    private static final int LIFE = 512;
    private static final int TOLD = 94;
    /** No row of calls that belong together is longer. */
    private static final int ROW = 30;

    private final Random random;
    private final RingShadow fast = new RingShadow();
    private final SlowRing slow = new SlowRing();
    private final List<String> history = new ArrayList<>();
    private int lands = 6;
    private int made;
    private boolean allAlike = true;

    private ModelTest(long seed) {
        random = new Random(seed);
    }

    public static void main(String[] args) {
        int[] often = new int[CALLS.length];
        for (int seed = 0; seed < RUNS; seed++) {
            ModelTest run = new ModelTest(seed);
            if (!run.goOn(often)) {
                System.out.println("run " + seed + ":");
                run.history.forEach(System.out::println);
                System.exit(1);
            }
        }
        StringBuilder text = new StringBuilder("ModelTest: all alike in");
        for (int i = 0; i < CALLS.length; i++) {
            text.append(' ').append(CALLS[i]).append(' ').append(often[i]);
        }
        System.out.println(text);
    }

    private boolean goOn(int[] often) {
        begin();
        int calls = random.nextInt(20) == 0 ? LIFE : 20 + random.nextInt(60);
        for (int i = 0; i < calls && made + ROW + TOLD <= LIFE; i++) {
            int call = random.nextInt(CALLS.length);
            if (CALLS[call].equals("lands") && random.nextInt(4) != 0) {
                call = 1 + random.nextInt(3);
            }
            often[call]++;
            if (!isAlike(CALLS[call])) {
                return false;
            }
        }
        for (int what = 0; what < TOLD; what++) {
            if (!compare("told", new int[] {what})) {
                return false;
            }
        }
        return allAlike;
    }

    /** Lands and a shadow of all shapes, each as likely. */
    private void begin() {
        int n = 2 + random.nextInt(8);
        compare("lands", new int[] {n, 1 + random.nextInt(n - 1)});
        lands = n;
        compare("set", new int[] {0, 1 + random.nextInt(9)});
        compare("set", new int[] {1, random.nextInt(100)});
        if (random.nextInt(3) != 0) {
            compare("set", new int[] {2, 2 + random.nextInt(19)});
            compare("set", new int[] {3, random.nextInt(20)});
            compare("set", new int[] {4, random.nextInt(20)});
        }
        boolean poor = random.nextBoolean();
        for (int k = 0; k < n; k++) {
            compare("land", new int[] {k, 0, random.nextInt(21)});
            compare("land", new int[] {k, 1, random.nextInt(poor ? 21 : 8)});
            compare("land", new int[] {k, 3, random.nextInt(100)});
            compare("land", new int[] {k, 2, random.nextInt(poor ? 10 : 100)});
        }
    }

    private boolean isAlike(String call) {
        if (call.equals("say") || call.equals("judge") || call.equals("behind") || call.equals("done")) {
            if (random.nextInt(3) != 0 && !sayActs()) {
                return false;
            }
        }
        if (call.equals("seen") && random.nextInt(3) != 0) {
            return seeTruly();
        }
        int[] a = arguments(call);
        if (random.nextInt(12) == 0 && a.length > 0) {
            a[random.nextInt(a.length)] = EXTREMES[random.nextInt(EXTREMES.length)];
        }
        boolean alike = compare(call, a);
        lands = fast.told(1);
        made++;
        return alike;
    }

    /** A text that has a fault seldom. */
    private boolean sayActs() {
        if (!compare("wipe", new int[0])) {
            return false;
        }
        int acts = random.nextInt(6);
        StringBuilder text = new StringBuilder();
        for (int i = 0; i < acts; i++) {
            int kind = random.nextInt(4);
            text.append(kind == 0 ? "." : kind == 1 ? ":" : "" + (char) ('a' + random.nextInt(lands))
                + (char) ('a' + random.nextInt(lands)) + (1 + random.nextInt(random.nextBoolean() ? 2 : 9)));
        }
        if (random.nextInt(6) == 0) {
            text.append((char) (33 + random.nextInt(94)));
        }
        for (int i = 0; i < text.length(); i++) {
            if (!compare("say", new int[] {text.charAt(i)})) {
                return false;
            }
        }
        return compare("fault", new int[0]);
    }

    /** A sight as it is, so that laws are left. */
    private boolean seeTruly() {
        int land = random.nextInt(lands);
        int t = random.nextInt(random.nextBoolean() ? 50 : 10000);
        int first = fast.covered(t);
        boolean covered = land >= first && land < first + fast.told(2);
        made += 2;
        return compare("seen", new int[] {land, t, covered ? 1 : 0});
    }

    private int land() {
        return random.nextInt(30) == 0 ? lands : random.nextInt(lands);
    }

    private int year() {
        int kind = random.nextInt(4);
        return kind == 0 ? random.nextInt(12) : kind == 1 ? random.nextInt(300) : kind == 2 ? 99999 - random.nextInt(40)
            : random.nextInt(100000);
    }

    private int span(int least, int most) {
        int kind = random.nextInt(4);
        return kind == 0 ? Math.min(most, least + random.nextInt(10)) : kind == 1 ? most - random.nextInt(2)
            : least + random.nextInt(most - least + 1);
    }

    private int[] arguments(String call) {
        switch (call) {
            case "lands": return new int[] {1 + random.nextInt(10), random.nextInt(9)};
            case "set": return new int[] {random.nextInt(6), random.nextInt(22)};
            case "land": return new int[] {land(), random.nextInt(5), random.nextInt(random.nextBoolean() ? 23 : 102)};
            case "say": return new int[] {random.nextBoolean() ? ".:abcdefghij0123".charAt(random.nextInt(16))
                : 30 + random.nextInt(100)};
            case "judge": return new int[] {random.nextInt(5)};
            case "behind": return new int[] {land(), random.nextInt(4)};
            case "lit": return new int[] {land(), year()};
            case "covered": return new int[] {year()};
            case "lits": return new int[] {land(), year(), span(0, random.nextInt(4) == 0 ? 100000 : 3000)};
            case "next": return new int[] {land(), year(), random.nextInt(2)};
            case "longest": return new int[] {land(), year(), span(0, 9999)};
            case "hungry": return new int[] {random.nextInt(3)};
            case "needs": return new int[] {land(), span(1, 99)};
            case "carry": return new int[] {span(1, random.nextBoolean() ? 3 : 40)};
            case "paced": return new int[] {1 + random.nextInt(10), span(1, 99)};
            case "strike": return new int[] {land(), land(), year()};
            case "strikes": return new int[] {land(), land(), year(), span(0, 9999)};
            case "ways": return new int[] {land(), land(), year(), span(0, 30)};
            case "where": return new int[] {land(), year(), span(0, 30)};
            case "meet": return new int[] {land(), land(), year()};
            case "seen": return new int[] {land(), random.nextInt(10001), random.nextInt(2)};
            case "laws": return new int[] {random.nextInt(random.nextBoolean() ? 30 : 3200) - 2};
            case "look": return new int[] {year(), random.nextInt(2)};
            case "dust": return new int[] {land(), random.nextInt(12), span(0, 12), random.nextInt(2)};
            case "rent": return new int[] {land(), year(), span(0, 9999), span(0, 99)};
            case "age": return new int[] {span(0, 9999), span(1, 99), random.nextInt(3)};
            case "image":
            case "restore": return new int[] {random.nextInt(3)};
            case "told": return new int[] {random.nextInt(105)};
            default: return new int[0];
        }
    }

    private boolean compare(String call, int[] a) {
        made++;
        long got = Calls.ask(fast, call, a);
        long want = Calls.ask(slow, call, a);
        StringBuilder text = new StringBuilder(call).append('(');
        for (int i = 0; i < a.length; i++) {
            text.append(i == 0 ? "" : ", ").append(a[i]);
        }
        history.add(text.append(") answered ").append(got).append(got == want ? "" : ", due is " + want).toString());
        allAlike &= got == want;
        return got == want;
    }
}
