import java.util.Arrays;

/** Runs of 512 calls, each answered by ClinicBooks and by the Model. */
public final class ModelTest {
    private static final int RUNS = 1500;
    private static final int CALLS = 512;
    private static final String[] NAMES = {"schedule", "dose", "strike", "recall", "same", "write",
        "tear", "load", "stick", "known", "heard", "entry", "counting", "protectedDay", "due",
        "coverage", "lotList", "whoIs", "sum"};
    private static final int[] PARAMETERS = {5, 5, 2, 4, 3, 2, 2, 2, 2, 2, 3, 4, 3, 3, 3, 3, 3, 2, 1};
    /** How often each call is drawn: books have 24 entries only, sticks must travel much. */
    private static final int[] WEIGHTS = {1, 10, 2, 1, 2, 12, 5, 20, 6, 6, 6, 8, 8, 8, 8, 6, 8, 5, 4};
    private static final int[] ODD = {-1, Integer.MIN_VALUE, Integer.MAX_VALUE, 3, 4, 5, 9, 10, 11,
        12, 24, 1000, 1001, 40000, 40001};
    private static final long[] ANSWERS = new long[NAMES.length];
    private static final long[] THROWN = new long[NAMES.length];

    private static long seed;

    public static void main(String[] args) {
        for (int run = 0; run < RUNS && !Check.anyWrong(); run++) {
            seed = run * 7919L + 17;
            oneRun(run);
        }
        everyCallWasMet();
        Check.finish();
    }

    /** A counter that is stirred: the same numbers in every run of the test. */
    private static int below(int bound) {
        seed = seed * 6364136223846793005L + 1442695040888963407L;
        return (int) ((seed >>> 33) % bound);
    }

    private static void oneRun(int run) {
        ClinicBooks x = new ClinicBooks();
        Model model = new Model();
        // Few persons, lots and days in some runs, so that doses meet.
        int[] spread = {1 + below(12), 1 + below(10), 1 + below(run % 3 == 0 ? 40000 : 60)};
        for (int i = 0; i < CALLS && !Check.anyWrong(); i++) {
            int kind = i < 4 ? 0 : drawKind();
            int[] a = arguments(kind, spread);
            String want = Check.answerOf(() -> byModel(model, kind, a));
            String got = Check.answerOf(() -> byBooks(x, kind, a));
            String shown = Arrays.toString(Arrays.copyOf(a, PARAMETERS[kind]));
            Check.equal("run " + run + ", call " + i + ": " + NAMES[kind] + shown, want, got);
            ANSWERS[kind]++;
            if (want.startsWith("throws")) {
                THROWN[kind]++;
            }
        }
    }

    private static int drawKind() {
        int all = Arrays.stream(WEIGHTS).sum();
        int place = below(all);
        int kind = 0;
        while (place >= WEIGHTS[kind]) {
            place -= WEIGHTS[kind];
            kind++;
        }
        return kind;
    }

    private static int[] arguments(int kind, int[] spread) {
        int c = below(4);
        int p = below(spread[0]);
        int v = below(4) == 0 ? below(3) : 0;
        int lot = below(spread[1]);
        int day = below(spread[2]);
        int s = below(3);
        int gap = below(2) == 0 ? below(10) : below(1001);
        int[] a = switch (kind) {
            case 0 -> new int[] {below(3), 1 + below(4), below(20), gap, below(5)};
            case 1 -> new int[] {c, p, v, lot, day};
            case 2 -> new int[] {c, below(24)};
            case 3 -> new int[] {c, lot, day, day + below(10)};
            case 4 -> new int[] {c, p, below(12)};
            case 5, 7 -> new int[] {c, s};
            case 6 -> new int[] {s, below(4) == 0 ? below(2) : below(14)};
            case 8 -> new int[] {s, below(3)};
            case 9 -> new int[] {c, below(4)};
            case 10 -> new int[] {c, below(4), below(4)};
            case 11 -> new int[] {c, below(4), below(24), below(5)};
            case 15 -> new int[] {c, v, day};
            case 16 -> new int[] {c, lot, below(4)};
            case 17 -> new int[] {c, below(12)};
            case 18 -> new int[] {c};
            default -> new int[] {c, p, v};
        };
        if (below(15) == 0) {
            a[below(a.length)] = ODD[below(ODD.length)];
        }
        return Arrays.copyOf(a, 5);
    }

    private static long byBooks(ClinicBooks x, int kind, int[] a) {
        switch (kind) {
            case 0:
                x.schedule(a[0], a[1], a[2], a[3], a[4]);
                return 0;
            case 1: return x.dose(a[0], a[1], a[2], a[3], a[4]);
            case 2: return x.strike(a[0], a[1]);
            case 3: return x.recall(a[0], a[1], a[2], a[3]);
            case 4: return x.same(a[0], a[1], a[2]);
            case 5: return x.write(a[0], a[1]);
            case 6: return x.tear(a[0], a[1]);
            case 7: return x.load(a[0], a[1]);
            case 8: return x.stick(a[0], a[1]);
            case 9: return x.known(a[0], a[1]);
            case 10: return x.heard(a[0], a[1], a[2]);
            case 11: return x.entry(a[0], a[1], a[2], a[3]);
            case 12: return x.counting(a[0], a[1], a[2]);
            case 13: return x.protectedDay(a[0], a[1], a[2]);
            case 14: return x.due(a[0], a[1], a[2]);
            case 15: return x.coverage(a[0], a[1], a[2]);
            case 16: return x.lotList(a[0], a[1], a[2]);
            case 17: return x.whoIs(a[0], a[1]);
            default: return x.sum(a[0]);
        }
    }

    private static long byModel(Model x, int kind, int[] a) {
        switch (kind) {
            case 0: return x.schedule(a[0], a[1], a[2], a[3], a[4]);
            case 1: return x.dose(a[0], a[1], a[2], a[3], a[4]);
            case 2: return x.strike(a[0], a[1]);
            case 3: return x.recall(a[0], a[1], a[2], a[3]);
            case 4: return x.same(a[0], a[1], a[2]);
            case 5: return x.write(a[0], a[1]);
            case 6: return x.tear(a[0], a[1]);
            case 7: return x.load(a[0], a[1]);
            case 8: return x.stick(a[0], a[1]);
            case 9: return x.known(a[0], a[1]);
            case 10: return x.heard(a[0], a[1], a[2]);
            case 11: return x.entry(a[0], a[1], a[2], a[3]);
            case 12: return x.counting(a[0], a[1], a[2]);
            case 13: return x.protectedDay(a[0], a[1], a[2]);
            case 14: return x.due(a[0], a[1], a[2]);
            case 15: return x.coverage(a[0], a[1], a[2]);
            case 16: return x.lotList(a[0], a[1], a[2]);
            case 17: return x.whoIs(a[0], a[1]);
            default: return x.sum(a[0]);
        }
    }

    /** A run that meets only refusals, or none where the document has some, would tell little. */
    private static void everyCallWasMet() {
        for (int kind = 0; kind < NAMES.length && !Check.anyWrong(); kind++) {
            boolean neverThrows = kind >= 8 && kind <= 11 || kind == 16 || kind == 17;
            Check.equal(NAMES[kind] + " was answered", 1, ANSWERS[kind] > THROWN[kind] ? 1 : 0);
            Check.equal(NAMES[kind] + " was refused", neverThrows ? 0 : 1, THROWN[kind] > 0 ? 1 : 0);
        }
    }
}
