import java.util.Arrays;

/** Runs of 512 calls, each answered by ClinicBooks and by the Model. */
public final class ModelTest {
    private static final int RUNS = 1500;
    private static final int CALLS = 512;
    /** How often each call is drawn: books have 24 entries only, sticks must travel much. */
    private static final int[] WEIGHTS = {1, 10, 2, 1, 2, 12, 5, 20, 6, 6, 6, 8, 8, 8, 8, 6, 8, 5, 4};
    private static final int[] ODD = {-1, Integer.MIN_VALUE, Integer.MAX_VALUE, 3, 4, 5, 9, 10, 11,
        12, 24, 1000, 1001, 40000, 40001};
    private static final long[] ANSWERS = new long[Calls.NAMES.length];
    private static final long[] THROWN = new long[Calls.NAMES.length];

    private static long seed;

    public static void main(String[] args) {
        for (int run = 0; run < RUNS && !Check.anyWrong(); run++) {
            seed = run * 7919L + 17;
            oneRun(run);
        }
        everyCallWasMet();
        Check.finish();
    }

    /** A counter that is stirred: the same numbers in every run of the test. */
    private static int below(int bound) {
        seed = seed * 6364136223846793005L + 1442695040888963407L;
        return (int) ((seed >>> 33) % bound);
    }

    private static void oneRun(int run) {
        ClinicBooks x = new ClinicBooks();
        Model model = new Model();
        // Few persons, lots and days in some runs, so that doses meet.
        int[] spread = {1 + below(12), 1 + below(10), 1 + below(run % 3 == 0 ? 40000 : 60)};
        for (int i = 0; i < CALLS && !Check.anyWrong(); i++) {
            int kind = i < 4 ? 0 : drawKind();
            int[] a = arguments(kind, spread);
            String want = Check.answerOf(() -> Calls.byModel(model, kind, a));
            String got = Check.answerOf(() -> Calls.byBooks(x, kind, a));
            Check.equal("run " + run + ", call " + i + ": " + Calls.show(kind, a), want, got);
            ANSWERS[kind]++;
            if (want.startsWith("throws")) {
                THROWN[kind]++;
            }
        }
    }

    private static int drawKind() {
        int all = Arrays.stream(WEIGHTS).sum();
        int place = below(all);
        int kind = 0;
        while (place >= WEIGHTS[kind]) {
            place -= WEIGHTS[kind];
            kind++;
        }
        return kind;
    }

    private static int[] arguments(int kind, int[] spread) {
        int c = below(4);
        int p = below(spread[0]);
        int v = below(4) == 0 ? below(3) : 0;
        int lot = below(spread[1]);
        int day = below(spread[2]);
        int s = below(3);
        int gap = below(2) == 0 ? below(10) : below(1001);
        int[] a = switch (kind) {
            case 0 -> new int[] {below(3), 1 + below(4), below(20), gap, below(5)};
            case 1 -> new int[] {c, p, v, lot, day};
            case 2 -> new int[] {c, below(24)};
            case 3 -> new int[] {c, lot, day, day + below(10)};
            case 4 -> new int[] {c, p, below(12)};
            case 5, 7 -> new int[] {c, s};
            case 6 -> new int[] {s, below(4) == 0 ? below(2) : below(14)};
            case 8 -> new int[] {s, below(3)};
            case 9 -> new int[] {c, below(4)};
            case 10 -> new int[] {c, below(4), below(4)};
            case 11 -> new int[] {c, below(4), below(24), below(5)};
            case 15 -> new int[] {c, v, day};
            case 16 -> new int[] {c, lot, below(4)};
            case 17 -> new int[] {c, below(12)};
            case 18 -> new int[] {c};
            default -> new int[] {c, p, v};
        };
        if (below(15) == 0) {
            a[below(a.length)] = ODD[below(ODD.length)];
        }
        return Arrays.copyOf(a, 5);
    }

    /** A run that meets only refusals, or none where the document has some, would tell little. */
    private static void everyCallWasMet() {
        for (int kind = 0; kind < Calls.NAMES.length && !Check.anyWrong(); kind++) {
            Check.equal(Calls.NAMES[kind] + " was answered", 1, ANSWERS[kind] > THROWN[kind] ? 1 : 0);
            Check.equal(Calls.NAMES[kind] + " was refused", Calls.neverThrows(kind) ? 0 : 1,
                    THROWN[kind] > 0 ? 1 : 0);
        }
    }
}
