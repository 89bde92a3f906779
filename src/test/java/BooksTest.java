/** Promises 1 to 6 and 13: a new object, what is appended, and what stands in an entry. */
public final class BooksTest {
    private static final int MIN = Integer.MIN_VALUE;
    private static final int MAX = Integer.MAX_VALUE;

    public static void main(String[] args) {
        newObject();
        newObjectHasOneDoseOfEach();
        objectsShareNothing();
        schedule();
        scheduleEdges();
        scheduleRefused();
        scheduleBehindEntries();
        dose();
        doseRefused();
        strike();
        strikeRefused();
        recall();
        recallRefused();
        same();
        sameRefused();
        fullBook();
        argumentsBeforeState();
        entry();
        entryNone();
        Check.finish();
    }

    private static void newObject() {
        ClinicBooks x = new ClinicBooks();
        for (int c = 0; c < 4; c++) {
            Check.equal("new sum", 0, x.sum(c));
            for (int d = 0; d < 4; d++) {
                Check.equal("new known", 0, x.known(c, d));
                Check.equal("new entry", -1, x.entry(c, d, 0, 0));
                for (int b = 0; b < 4; b++) {
                    Check.equal("new heard", b == c ? -1 : 0, x.heard(c, b, d));
                }
            }
            for (int p = 0; p < 12; p++) {
                Check.equal("new whoIs", p, x.whoIs(c, p));
            }
            Check.equal("new lotList", -1, x.lotList(c, 0, 0));
            Check.equal("new coverage", 0, x.coverage(c, 0, 40000));
        }
        for (int s = 0; s < 3; s++) {
            Check.equal("new stick pages", 0, x.stick(s, 0));
            Check.equal("new stick writer", -1, x.stick(s, 1));
            Check.equal("new stick entries", 0, x.stick(s, 2));
        }
        Check.equal("NONE", -1, ClinicBooks.NONE);
    }

    private static void newObjectHasOneDoseOfEach() {
        ClinicBooks x = new ClinicBooks();
        for (int v = 0; v < 3; v++) {
            Check.equal("due at first", 0, x.due(0, 0, v));
            x.dose(0, 0, v, 0, 10);
            x.dose(0, 0, v, 0, 20);
            Check.equal("one dose counts", 1, x.counting(0, 0, v));
            Check.equal("one dose protects", 10, x.protectedDay(0, 0, v));
            Check.equal("one dose is enough", -1, x.due(0, 0, v));
        }
    }

    private static void objectsShareNothing() {
        ClinicBooks x = new ClinicBooks();
        ClinicBooks y = new ClinicBooks();
        x.schedule(0, 2, 5, 0, 0);
        x.dose(0, 1, 0, 0, 3);
        x.write(0, 0);
        Check.equal("another object's book", 0, y.known(0, 0));
        Check.equal("another object's stick", 0, y.stick(0, 0));
        y.dose(0, 1, 0, 0, 3);
        Check.equal("another object's schedule", 3, y.protectedDay(0, 1, 0));
        Check.equal("own schedule", -1, x.protectedDay(0, 1, 0));
    }

    private static void schedule() {
        ClinicBooks x = new ClinicBooks();
        x.schedule(0, 4, 1, 10, 100);
        x.schedule(1, 2, 7, 0, 0);
        x.dose(0, 0, 0, 0, 0);
        Check.equal("gap 1", 1, x.due(0, 0, 0));
        x.dose(0, 0, 0, 0, 1);
        Check.equal("gap 2", 11, x.due(0, 0, 0));
        x.dose(0, 0, 0, 0, 11);
        Check.equal("gap 3", 111, x.due(0, 0, 0));
        x.dose(0, 0, 0, 0, 111);
        Check.equal("all four", 111, x.protectedDay(0, 0, 0));
        x.dose(0, 0, 1, 0, 5);
        Check.equal("vaccine 1 has its own", 12, x.due(0, 0, 1));
        x.dose(0, 0, 2, 0, 5);
        Check.equal("vaccine 2 keeps one dose", 5, x.protectedDay(0, 0, 2));
    }

    private static void scheduleEdges() {
        ClinicBooks x = new ClinicBooks();
        x.schedule(0, 1, MIN, -1, MAX);
        x.schedule(0, 2, 1000, -1, 1001);
        x.schedule(1, 3, 0, 1000, -1);
        x.schedule(2, 4, 0, 0, 1000);
        x.dose(0, 0, 0, 0, 40000);
        Check.equal("due above the last day", 41000, x.due(0, 0, 0));
        x.dose(0, 0, 1, 0, 1);
        x.dose(0, 0, 1, 0, 1);
        Check.equal("gap of 0, then of 1000", 1001, x.due(0, 0, 1));
        ClinicBooks y = new ClinicBooks();
        y.schedule(0, 4, 9, 9, 9);
        y.schedule(0, 2, 3, 9, 9);
        y.dose(0, 0, 0, 0, 0);
        y.dose(0, 0, 0, 0, 3);
        Check.equal("the later schedule holds", 3, y.protectedDay(0, 0, 0));
    }

    private static long scheduled(ClinicBooks x, int vaccine, int doses, int gap1, int gap2, int gap3) {
        x.schedule(vaccine, doses, gap1, gap2, gap3);
        return 0;
    }

    private static void scheduleRefused() {
        ClinicBooks x = new ClinicBooks();
        x.schedule(0, 2, 5, 0, 0);
        for (int v : new int[] {-1, 3, MIN, MAX}) {
            Check.argument("schedule of vaccine " + v, () -> scheduled(x, v, 1, 0, 0, 0));
        }
        for (int n : new int[] {0, 5, -1, MIN, MAX}) {
            Check.argument("schedule of doses " + n, () -> scheduled(x, 0, n, 0, 0, 0));
        }
        for (int g : new int[] {-1, 1001, MIN, MAX}) {
            Check.argument("gap 1 of two " + g, () -> scheduled(x, 0, 2, g, 0, 0));
            Check.argument("gap 1 of three " + g, () -> scheduled(x, 0, 3, g, 0, 0));
            Check.argument("gap 2 of three " + g, () -> scheduled(x, 0, 3, 0, g, 0));
            Check.argument("gap 1 of four " + g, () -> scheduled(x, 0, 4, g, 0, 0));
            Check.argument("gap 2 of four " + g, () -> scheduled(x, 0, 4, 0, g, 0));
            Check.argument("gap 3 of four " + g, () -> scheduled(x, 0, 4, 0, 0, g));
        }
        x.dose(0, 0, 0, 0, 1);
        Check.equal("the schedule is as it was", 6, x.due(0, 0, 0));
    }

    private static void scheduleBehindEntries() {
        for (int c = 0; c < 4; c++) {
            ClinicBooks x = new ClinicBooks();
            x.same(c, 1, 1);
            Check.state("schedule behind an entry of " + c, () -> scheduled(x, 0, 2, 1, 0, 0));
            Check.argument("no such vaccine behind an entry", () -> scheduled(x, 3, 2, 1, 0, 0));
            Check.argument("no such gap behind an entry", () -> scheduled(x, 0, 2, -1, 0, 0));
            x.dose(c, 1, 0, 0, 8);
            Check.equal("the schedule is as it was", 8, x.protectedDay(c, 1, 0));
        }
        ClinicBooks y = new ClinicBooks();
        y.write(0, 0);
        y.load(1, 0);
        Check.equal("sticks are no entries", "0", Check.answerOf(() -> scheduled(y, 0, 2, 1, 0, 0)));
    }

    private static void dose() {
        ClinicBooks x = new ClinicBooks();
        Check.equal("first dose", 0, x.dose(2, 0, 0, 0, 0));
        Check.equal("second dose", 1, x.dose(2, 11, 2, 9, 40000));
        Check.equal("another clinic's first", 0, x.dose(3, 11, 2, 9, 40000));
        Check.equal("the same again", 2, x.dose(2, 11, 2, 9, 40000));
        Check.equal("known", 3, x.known(2, 2));
        Check.equal("person", 11, x.entry(2, 2, 1, 1));
        Check.equal("vaccine", 2, x.entry(2, 2, 1, 2));
        Check.equal("lot", 9, x.entry(2, 2, 1, 3));
        Check.equal("day", 40000, x.entry(2, 2, 1, 4));
    }

    private static void doseRefused() {
        ClinicBooks x = new ClinicBooks();
        x.dose(0, 0, 0, 0, 0);
        String before = Check.seen(x);
        for (int bad : new int[] {-1, MIN, MAX}) {
            Check.argument("dose clinic " + bad, () -> x.dose(bad, 0, 0, 0, 0));
            Check.argument("dose person " + bad, () -> x.dose(0, bad, 0, 0, 0));
            Check.argument("dose vaccine " + bad, () -> x.dose(0, 0, bad, 0, 0));
            Check.argument("dose lot " + bad, () -> x.dose(0, 0, 0, bad, 0));
            Check.argument("dose day " + bad, () -> x.dose(0, 0, 0, 0, bad));
        }
        Check.argument("dose clinic 4", () -> x.dose(4, 0, 0, 0, 0));
        Check.argument("dose person 12", () -> x.dose(0, 12, 0, 0, 0));
        Check.argument("dose vaccine 3", () -> x.dose(0, 0, 3, 0, 0));
        Check.argument("dose lot 10", () -> x.dose(0, 0, 0, 10, 0));
        Check.argument("dose day 40001", () -> x.dose(0, 0, 0, 0, 40001));
        Check.equal("refused doses change nothing", before, Check.seen(x));
    }

    private static void strike() {
        ClinicBooks x = new ClinicBooks();
        x.dose(1, 3, 0, 0, 5);
        x.dose(1, 4, 0, 0, 6);
        Check.equal("strike", 2, x.strike(1, 1));
        Check.equal("strike's kind", 2, x.entry(1, 1, 2, 0));
        Check.equal("strike's entry", 1, x.entry(1, 1, 2, 1));
        Check.equal("the struck one", -1, x.protectedDay(1, 4, 0));
        Check.equal("the other one", 5, x.protectedDay(1, 3, 0));
        Check.equal("strike of the first", 3, x.strike(1, 0));
    }

    private static void strikeRefused() {
        ClinicBooks x = new ClinicBooks();
        x.dose(0, 0, 0, 0, 0);
        x.recall(0, 5, 0, 0);
        x.same(0, 1, 2);
        x.strike(0, 0);
        x.same(1, 1, 1);
        x.dose(1, 1, 1, 1, 1);
        x.recall(2, 0, 0, 40000);
        x.dose(2, 1, 1, 0, 1);
        Check.carry(x, 1, 0);
        String before = Check.seen(x);
        Check.state("strike again", () -> x.strike(0, 0));
        for (int entry : new int[] {1, 2, 3, 4, 24, -1, MIN, MAX}) {
            Check.argument("strike of " + entry, () -> x.strike(0, entry));
        }
        for (int clinic : new int[] {-1, 4, MIN, MAX}) {
            Check.argument("strike of clinic " + clinic, () -> x.strike(clinic, 0));
        }
        Check.argument("strike of no dose, which is one elsewhere", () -> x.strike(1, 0));
        Check.argument("strike in an empty book", () -> x.strike(3, 0));
        Check.equal("refused strikes change nothing", before, Check.seen(x));
        Check.equal("a recalled dose can be struck", 2, x.strike(2, 1));
    }

    private static void recall() {
        ClinicBooks x = new ClinicBooks();
        Check.equal("recall", 0, x.recall(3, 9, 0, 40000));
        Check.equal("recall of one day", 1, x.recall(3, 0, 7, 7));
        Check.equal("the same recall again", 2, x.recall(3, 0, 7, 7));
        Check.equal("recall's kind", 3, x.entry(3, 3, 0, 0));
        Check.equal("recall's lot", 9, x.entry(3, 3, 0, 1));
        Check.equal("recall's from", 0, x.entry(3, 3, 0, 2));
        Check.equal("recall's to", 40000, x.entry(3, 3, 0, 3));
        x.dose(3, 1, 0, 0, 7);
        Check.equal("a dose behind the recall", -1, x.protectedDay(3, 1, 0));
        x.dose(3, 1, 0, 0, 8);
        Check.equal("a dose outside the recall", 8, x.protectedDay(3, 1, 0));
    }

    private static void recallRefused() {
        ClinicBooks x = new ClinicBooks();
        String before = Check.seen(x);
        for (int bad : new int[] {-1, MIN, MAX}) {
            Check.argument("recall clinic " + bad, () -> x.recall(bad, 0, 0, 0));
            Check.argument("recall lot " + bad, () -> x.recall(0, bad, 0, 0));
            Check.argument("recall from " + bad, () -> x.recall(0, 0, bad, 40000));
            Check.argument("recall to " + bad, () -> x.recall(0, 0, 0, bad));
        }
        Check.argument("recall clinic 4", () -> x.recall(4, 0, 0, 0));
        Check.argument("recall lot 10", () -> x.recall(0, 10, 0, 0));
        Check.argument("recall days 40001", () -> x.recall(0, 0, 40001, 40001));
        Check.argument("recall to 40001", () -> x.recall(0, 0, 0, 40001));
        Check.argument("recall from above to", () -> x.recall(0, 0, 8, 7));
        Check.equal("refused recalls change nothing", before, Check.seen(x));
    }

    private static void same() {
        ClinicBooks x = new ClinicBooks();
        Check.equal("same", 0, x.same(1, 11, 0));
        Check.equal("same of one person", 1, x.same(1, 4, 4));
        Check.equal("the same again", 2, x.same(1, 11, 0));
        Check.equal("same's kind", 4, x.entry(1, 1, 0, 0));
        Check.equal("same's p", 11, x.entry(1, 1, 0, 1));
        Check.equal("same's q", 0, x.entry(1, 1, 0, 2));
        Check.equal("they are one", 0, x.whoIs(1, 11));
        Check.equal("one person stays it", 4, x.whoIs(1, 4));
    }

    private static void sameRefused() {
        ClinicBooks x = new ClinicBooks();
        String before = Check.seen(x);
        for (int bad : new int[] {-1, 12, MIN, MAX}) {
            Check.argument("same p " + bad, () -> x.same(0, bad, 0));
            Check.argument("same q " + bad, () -> x.same(0, 0, bad));
        }
        for (int bad : new int[] {-1, 4, MIN, MAX}) {
            Check.argument("same clinic " + bad, () -> x.same(bad, 0, 0));
        }
        Check.equal("refused sames change nothing", before, Check.seen(x));
    }

    private static void fullBook() {
        ClinicBooks x = new ClinicBooks();
        x.dose(2, 0, 0, 0, 0);
        for (int i = 1; i < 24; i++) {
            Check.equal("entry " + i, i, x.same(2, 3, 3));
        }
        String before = Check.seen(x);
        Check.state("dose in a full book", () -> x.dose(2, 0, 0, 0, 0));
        Check.state("strike in a full book", () -> x.strike(2, 0));
        Check.state("recall in a full book", () -> x.recall(2, 0, 0, 0));
        Check.state("same in a full book", () -> x.same(2, 0, 0));
        Check.equal("refused entries change nothing", before, Check.seen(x));
        Check.equal("another book is not full", 0, x.dose(1, 0, 0, 0, 0));
        Check.equal("the last entry", 4, x.entry(2, 2, 23, 0));
        Check.equal("no entry behind it", -1, x.entry(2, 2, 24, 0));
    }

    private static void argumentsBeforeState() {
        ClinicBooks x = new ClinicBooks();
        x.dose(0, 0, 0, 0, 0);
        x.strike(0, 0);
        Check.fill(x, 0, 22);
        Check.argument("no such person, full book", () -> x.dose(0, 12, 0, 0, 0));
        Check.argument("no such entry, full book", () -> x.strike(0, 24));
        Check.argument("from above to, full book", () -> x.recall(0, 0, 1, 0));
        Check.argument("no such q, full book", () -> x.same(0, 0, 12));
        Check.state("struck, full book", () -> x.strike(0, 0));
    }

    private static void entry() {
        ClinicBooks x = new ClinicBooks();
        x.dose(0, 5, 1, 3, 77);
        x.strike(0, 0);
        x.recall(0, 4, 10, 20);
        x.same(0, 8, 6);
        int[][] want = {{1, 5, 1, 3, 77}, {2, 0, 0, 0, 0}, {3, 4, 10, 20, 0}, {4, 8, 6, 0, 0}};
        x.write(0, 0);
        x.load(3, 0);
        for (int i = 0; i < 4; i++) {
            for (int w = 0; w < 5; w++) {
                Check.equal("own entry " + i + " " + w, want[i][w], x.entry(0, 0, i, w));
                Check.equal("another's entry " + i + " " + w, want[i][w], x.entry(3, 0, i, w));
                Check.equal("unknown entry " + i + " " + w, -1, x.entry(1, 0, i, w));
            }
        }
    }

    private static void entryNone() {
        ClinicBooks x = new ClinicBooks();
        x.dose(0, 5, 1, 3, 77);
        for (int bad : new int[] {-1, 4, MIN, MAX}) {
            Check.equal("entry for clinic " + bad, -1, x.entry(bad, 0, 0, 0));
            Check.equal("entry of book " + bad, -1, x.entry(0, bad, 0, 0));
        }
        for (int bad : new int[] {-1, 1, 23, 24, MIN, MAX}) {
            Check.equal("entry " + bad, -1, x.entry(0, 0, bad, 0));
        }
        for (int bad : new int[] {-1, 5, MIN, MAX}) {
            Check.equal("entry's w " + bad, -1, x.entry(0, 0, 0, bad));
        }
        Check.equal("the other way round", -1, x.entry(1, 0, 0, 0));
    }
}
