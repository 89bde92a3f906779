import java.util.Arrays;
import java.util.TreeSet;

/**
 * Every call with every row of edges of its parameters (the least int, just outside, the first,
 * the last, just outside, the greatest int), in several states. What lies outside must be refused
 * by the ranges that stand in the document; all else must be answered as the Model does.
 */
public final class EdgesTest {
    private static final int MIN = Integer.MIN_VALUE;
    private static final int MAX = Integer.MAX_VALUE;

    /** An object is used for 512 calls, those that lead to its state and the last look at it among them. */
    private static final int CALLS_OF_ONE_OBJECT = 300;

    private static final int[] CLINIC = {0, 3};
    private static final int[] PERSON = {0, 11};
    private static final int[] VACCINE = {0, 2};
    private static final int[] LOT = {0, 9};
    private static final int[] DAY = {0, 40000};
    private static final int[] DOSES = {1, 4};
    private static final int[] GAP = {0, 1000};
    private static final int[] STICK = {0, 2};
    private static final int[] ENTRY = {0, 23};
    private static final int[] PAGES = {0, MAX};
    private static final int[] ANY = {MIN, MAX};

    private static final int[][][] RANGES = {
        {VACCINE, DOSES, GAP, GAP, GAP},
        {CLINIC, PERSON, VACCINE, LOT, DAY},
        {CLINIC, ENTRY},
        {CLINIC, LOT, DAY, DAY},
        {CLINIC, PERSON, PERSON},
        {CLINIC, STICK},
        {STICK, PAGES},
        {CLINIC, STICK},
        {STICK, {0, 2}},
        {CLINIC, CLINIC},
        {CLINIC, CLINIC, CLINIC},
        {CLINIC, CLINIC, ENTRY, {0, 4}},
        {CLINIC, PERSON, VACCINE},
        {CLINIC, PERSON, VACCINE},
        {CLINIC, PERSON, VACCINE},
        {CLINIC, VACCINE, ANY},
        {CLINIC, LOT, {0, 11}},
        {CLINIC, PERSON},
        {CLINIC},
    };

    private static State state;
    private static ClinicBooks books;
    private static Model model;
    private static int callsMade;
    private static String seenAtFirst;

    public static void main(String[] args) {
        for (State each : States.all()) {
            state = each;
            seenAtFirst = Check.seen(state.books());
            for (int kind = 0; kind < RANGES.length; kind++) {
                allRowsOf(kind);
            }
        }
        Check.finish();
    }

    private static void allRowsOf(int kind) {
        begin();
        int[][] edges = new int[RANGES[kind].length][];
        for (int k = 0; k < edges.length; k++) {
            edges[k] = edgesOf(RANGES[kind][k]);
        }
        int[] place = new int[edges.length];
        boolean more = true;
        while (more) {
            int[] a = new int[5];
            for (int k = 0; k < place.length; k++) {
                a[k] = edges[k][place[k]];
            }
            oneRow(kind, a);
            more = next(place, edges);
        }
        seeThatNothingChanged();
    }

    private static boolean next(int[] place, int[][] edges) {
        for (int k = 0; k < place.length; k++) {
            place[k]++;
            if (place[k] < edges[k].length) {
                return true;
            }
            place[k] = 0;
        }
        return false;
    }

    private static int[] edgesOf(int[] range) {
        TreeSet<Integer> edges = new TreeSet<>(Arrays.asList(MIN, range[0], range[1], MAX));
        if (range[0] > MIN) {
            edges.add(range[0] - 1);
        }
        if (range[1] < MAX) {
            edges.add(range[1] + 1);
        }
        return edges.stream().mapToInt(i -> i).toArray();
    }

    private static void begin() {
        books = state.books();
        model = state.model();
        callsMade = 0;
    }

    private static void oneRow(int kind, int[] a) {
        String want = Check.answerOf(() -> Calls.byModel(model, kind, a));
        String got = Check.answerOf(() -> Calls.byBooks(books, kind, a));
        String what = state.name() + ": " + Calls.show(kind, a);
        Check.equal(what, want, got);
        if (isOutside(kind, a)) {
            Check.equal(what, Calls.neverThrows(kind) ? "-1" : "throws.IllegalArgumentException", got);
        } else {
            Check.equal(what + " lies inside", 0, got.equals("throws.IllegalArgumentException")
                    && kind != Calls.STRIKE ? 1 : 0);
        }
        callsMade++;
        if (Calls.mayChange(kind) && !want.startsWith("throws")) {
            begin();
        } else if (callsMade == CALLS_OF_ONE_OBJECT) {
            seeThatNothingChanged();
            begin();
        }
    }

    private static void seeThatNothingChanged() {
        Check.equal(state.name() + ": what is refused leaves to be seen", seenAtFirst, Check.seen(books));
    }

    private static boolean isOutside(int kind, int[] a) {
        int[][] ranges = RANGES[kind];
        for (int k = 0; k < ranges.length; k++) {
            boolean asked = kind != Calls.SCHEDULE || k < 2 || a[1] >= k;
            if (asked && (a[k] < ranges[k][0] || a[k] > ranges[k][1])) {
                return true;
            }
        }
        return kind == Calls.RECALL && a[2] > a[3] || kind == Calls.HEARD && a[0] == a[1];
    }
}
