/** The calls of the face by number, so that a test can hold a call, and make it on an object or on the Model. */
final class Calls {
    static final int SCHEDULE = 0;
    static final int DOSE = 1;
    static final int STRIKE = 2;
    static final int RECALL = 3;
    static final int SAME = 4;
    static final int WRITE = 5;
    static final int TEAR = 6;
    static final int LOAD = 7;
    static final int STICK = 8;
    static final int KNOWN = 9;
    static final int HEARD = 10;
    static final int ENTRY = 11;
    static final int COUNTING = 12;
    static final int PROTECTED_DAY = 13;
    static final int DUE = 14;
    static final int COVERAGE = 15;
    static final int LOT_LIST = 16;
    static final int WHO_IS = 17;
    static final int SUM = 18;

    static final String[] NAMES = {"schedule", "dose", "strike", "recall", "same", "write", "tear",
        "load", "stick", "known", "heard", "entry", "counting", "protectedDay", "due", "coverage",
        "lotList", "whoIs", "sum"};
    static final int[] PARAMETERS = {5, 5, 2, 4, 3, 2, 2, 2, 2, 2, 3, 4, 3, 3, 3, 3, 3, 2, 1};

    private Calls() {
    }

    /** Whether the call answers NONE where others throw. */
    static boolean neverThrows(int kind) {
        return kind >= STICK && kind <= ENTRY || kind == LOT_LIST || kind == WHO_IS;
    }

    static boolean mayChange(int kind) {
        return kind <= LOAD;
    }

    static long byBooks(ClinicBooks x, int kind, int[] a) {
        switch (kind) {
            case SCHEDULE:
                x.schedule(a[0], a[1], a[2], a[3], a[4]);
                return 0;
            case DOSE: return x.dose(a[0], a[1], a[2], a[3], a[4]);
            case STRIKE: return x.strike(a[0], a[1]);
            case RECALL: return x.recall(a[0], a[1], a[2], a[3]);
            case SAME: return x.same(a[0], a[1], a[2]);
            case WRITE: return x.write(a[0], a[1]);
            case TEAR: return x.tear(a[0], a[1]);
            case LOAD: return x.load(a[0], a[1]);
            case STICK: return x.stick(a[0], a[1]);
            case KNOWN: return x.known(a[0], a[1]);
            case HEARD: return x.heard(a[0], a[1], a[2]);
            case ENTRY: return x.entry(a[0], a[1], a[2], a[3]);
            case COUNTING: return x.counting(a[0], a[1], a[2]);
            case PROTECTED_DAY: return x.protectedDay(a[0], a[1], a[2]);
            case DUE: return x.due(a[0], a[1], a[2]);
            case COVERAGE: return x.coverage(a[0], a[1], a[2]);
            case LOT_LIST: return x.lotList(a[0], a[1], a[2]);
            case WHO_IS: return x.whoIs(a[0], a[1]);
            default: return x.sum(a[0]);
        }
    }

    static long byModel(Model x, int kind, int[] a) {
        switch (kind) {
            case SCHEDULE: return x.schedule(a[0], a[1], a[2], a[3], a[4]);
            case DOSE: return x.dose(a[0], a[1], a[2], a[3], a[4]);
            case STRIKE: return x.strike(a[0], a[1]);
            case RECALL: return x.recall(a[0], a[1], a[2], a[3]);
            case SAME: return x.same(a[0], a[1], a[2]);
            case WRITE: return x.write(a[0], a[1]);
            case TEAR: return x.tear(a[0], a[1]);
            case LOAD: return x.load(a[0], a[1]);
            case STICK: return x.stick(a[0], a[1]);
            case KNOWN: return x.known(a[0], a[1]);
            case HEARD: return x.heard(a[0], a[1], a[2]);
            case ENTRY: return x.entry(a[0], a[1], a[2], a[3]);
            case COUNTING: return x.counting(a[0], a[1], a[2]);
            case PROTECTED_DAY: return x.protectedDay(a[0], a[1], a[2]);
            case DUE: return x.due(a[0], a[1], a[2]);
            case COVERAGE: return x.coverage(a[0], a[1], a[2]);
            case LOT_LIST: return x.lotList(a[0], a[1], a[2]);
            case WHO_IS: return x.whoIs(a[0], a[1]);
            default: return x.sum(a[0]);
        }
    }

    static String show(int kind, int[] a) {
        StringBuilder text = new StringBuilder(NAMES[kind]).append('(');
        for (int k = 0; k < PARAMETERS[kind]; k++) {
            text.append(k == 0 ? "" : ", ").append(a[k]);
        }
        return text.append(')').toString();
    }
}
