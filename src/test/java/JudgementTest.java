/** Promises 14 to 20: what a clinic says by the entries that it knows. */
public final class JudgementTest {
    private static final int MIN = Integer.MIN_VALUE;
    private static final int MAX = Integer.MAX_VALUE;

    public static void main(String[] args) {
        countingByGaps();
        countingByDaysNotByEntries();
        countingStopsAtTheSchedule();
        countingOneVaccineAndPerson();
        countingOfThoseWhoAreOne();
        countingOfOneDay();
        strikesByWhatIsKnown();
        strikesNameTheirOwnBook();
        recallsByWhatIsKnown();
        recallEdges();
        judgementsRefused();
        protectedDay();
        due();
        coverage();
        coverageOfNames();
        coverageRefused();
        lotList();
        lotListByWhatIsKnown();
        lotListNone();
        whoIs();
        whoIsNone();
        sum();
        sumOfManyBooks();
        sumRefused();
        judgementsChangeNothing();
        Check.finish();
    }

    private static void countingByGaps() {
        ClinicBooks x = new ClinicBooks();
        x.schedule(0, 3, 20, 100, 0);
        x.dose(0, 3, 0, 1, 100);
        Check.equal("the first counts", 1, x.counting(0, 3, 0));
        x.dose(0, 3, 0, 1, 119);
        Check.equal("a day too early", 1, x.counting(0, 3, 0));
        x.dose(0, 3, 0, 1, 120);
        Check.equal("on the day", 2, x.counting(0, 3, 0));
        x.dose(0, 3, 0, 1, 219);
        Check.equal("a day too early for gap 2", 2, x.counting(0, 3, 0));
        x.dose(0, 3, 0, 1, 220);
        Check.equal("on the day of gap 2", 3, x.counting(0, 3, 0));
    }

    private static void countingByDaysNotByEntries() {
        ClinicBooks x = new ClinicBooks();
        x.schedule(0, 4, 10, 10, 10);
        int[] days = {35, 5, 20, 14, 25, 15};
        for (int day : days) {
            x.dose(0, 3, 0, 1, day);
        }
        // 5, 15, 25, 35 count; 14 and 20 come too early.
        Check.equal("by days", 4, x.counting(0, 3, 0));
        Check.equal("the last of them", 35, x.protectedDay(0, 3, 0));
        ClinicBooks y = new ClinicBooks();
        y.schedule(0, 2, 10, 0, 0);
        y.dose(3, 3, 0, 1, 9);
        y.dose(0, 3, 0, 1, 12);
        y.dose(1, 3, 0, 1, 19);
        Check.carry(y, 0, 1);
        Check.carry(y, 3, 1);
        Check.equal("by days over clinics", 19, y.protectedDay(1, 3, 0));
    }

    private static void countingStopsAtTheSchedule() {
        ClinicBooks x = new ClinicBooks();
        x.schedule(0, 2, 1, 0, 0);
        for (int day = 0; day < 10; day++) {
            x.dose(0, 3, 0, 1, day);
        }
        Check.equal("no more than the schedule's", 2, x.counting(0, 3, 0));
        Check.equal("from the last of these", 1, x.protectedDay(0, 3, 0));
    }

    private static void countingOneVaccineAndPerson() {
        ClinicBooks x = new ClinicBooks();
        for (int v = 0; v < 3; v++) {
            x.schedule(v, 4, 0, 0, 0);
        }
        x.dose(0, 3, 0, 1, 1);
        x.dose(0, 3, 1, 1, 2);
        x.dose(0, 4, 0, 1, 3);
        x.dose(0, 3, 1, 1, 4);
        Check.equal("person 3, vaccine 0", 1, x.counting(0, 3, 0));
        Check.equal("person 3, vaccine 1", 2, x.counting(0, 3, 1));
        Check.equal("person 3, vaccine 2", 0, x.counting(0, 3, 2));
        Check.equal("person 4, vaccine 0", 1, x.counting(0, 4, 0));
        Check.equal("another clinic", 0, x.counting(1, 3, 0));
    }

    private static void countingOfThoseWhoAreOne() {
        ClinicBooks x = new ClinicBooks();
        x.schedule(0, 3, 10, 10, 0);
        x.dose(0, 9, 0, 1, 0);
        x.dose(0, 2, 0, 1, 10);
        x.dose(0, 5, 0, 1, 20);
        x.same(0, 9, 5);
        Check.equal("two are one", 2, x.counting(0, 9, 0));
        Check.equal("by the other number, too", 2, x.counting(0, 5, 0));
        Check.equal("not the third", 1, x.counting(0, 2, 0));
        x.same(0, 5, 2);
        for (int p : new int[] {2, 5, 9}) {
            Check.equal("all are one", 3, x.counting(0, p, 0));
            Check.equal("protected as one", 20, x.protectedDay(0, p, 0));
        }
        x.same(1, 0, 3);
        Check.equal("another clinic's same is not known", 0, x.counting(0, 0, 0));
    }

    private static void countingOfOneDay() {
        ClinicBooks x = new ClinicBooks();
        x.schedule(0, 4, 0, 0, 1);
        x.dose(0, 1, 0, 1, 7);
        x.dose(0, 1, 0, 1, 7);
        x.dose(0, 1, 0, 1, 7);
        x.dose(0, 1, 0, 1, 7);
        Check.equal("gaps of 0", 3, x.counting(0, 1, 0));
        Check.equal("then a day", 8, x.due(0, 1, 0));
    }

    private static void strikesByWhatIsKnown() {
        ClinicBooks x = new ClinicBooks();
        x.dose(0, 1, 0, 1, 7);
        Check.carry(x, 0, 1);
        x.strike(0, 0);
        Check.equal("struck", 0, x.counting(0, 1, 0));
        Check.equal("the strike is not known", 1, x.counting(1, 1, 0));
        Check.carry(x, 0, 1);
        Check.equal("now it is", 0, x.counting(1, 1, 0));
    }

    private static void strikesNameTheirOwnBook() {
        ClinicBooks x = new ClinicBooks();
        x.dose(0, 1, 0, 1, 7);
        x.dose(1, 2, 0, 1, 8);
        x.strike(1, 0);
        Check.carry(x, 1, 0);
        Check.equal("entry 0 of book 0 stands", 1, x.counting(0, 1, 0));
        Check.equal("entry 0 of book 1 is struck", 0, x.counting(0, 2, 0));
        Check.equal("lot of book 0", 1, x.lotList(0, 1, 0));
        Check.equal("lot of book 1", -1, x.lotList(0, 1, 1));
    }

    private static void recallsByWhatIsKnown() {
        ClinicBooks x = new ClinicBooks();
        x.dose(0, 1, 0, 4, 7);
        x.recall(2, 4, 0, 40000);
        Check.equal("the recall is not known", 1, x.counting(0, 1, 0));
        Check.carry(x, 2, 0);
        Check.equal("a recall in another book", 0, x.counting(0, 1, 0));
        x.dose(0, 1, 0, 5, 8);
        Check.equal("another lot", 8, x.protectedDay(0, 1, 0));
    }

    private static void recallEdges() {
        int[] days = {9, 10, 15, 20, 21};
        boolean[] recalled = {false, true, true, true, false};
        for (int i = 0; i < days.length; i++) {
            ClinicBooks x = new ClinicBooks();
            x.dose(0, 1, 0, 4, days[i]);
            x.recall(0, 4, 10, 20);
            Check.equal("recalled on day " + days[i], recalled[i] ? 0 : 1, x.counting(0, 1, 0));
        }
    }

    private static void judgementsRefused() {
        ClinicBooks x = new ClinicBooks();
        for (int bad : new int[] {-1, MIN, MAX, 12}) {
            Check.argument("counting clinic " + bad, () -> x.counting(bad, 0, 0));
            Check.argument("counting person " + bad, () -> x.counting(0, bad, 0));
            Check.argument("counting vaccine " + bad, () -> x.counting(0, 0, bad));
            Check.argument("protectedDay clinic " + bad, () -> x.protectedDay(bad, 0, 0));
            Check.argument("protectedDay person " + bad, () -> x.protectedDay(0, bad, 0));
            Check.argument("protectedDay vaccine " + bad, () -> x.protectedDay(0, 0, bad));
            Check.argument("due clinic " + bad, () -> x.due(bad, 0, 0));
            Check.argument("due person " + bad, () -> x.due(0, bad, 0));
            Check.argument("due vaccine " + bad, () -> x.due(0, 0, bad));
        }
        Check.argument("counting clinic 4", () -> x.counting(4, 0, 0));
        Check.argument("counting vaccine 3", () -> x.counting(0, 0, 3));
        Check.argument("protectedDay clinic 4", () -> x.protectedDay(4, 0, 0));
        Check.argument("protectedDay vaccine 3", () -> x.protectedDay(0, 0, 3));
        Check.argument("due clinic 4", () -> x.due(4, 0, 0));
        Check.argument("due vaccine 3", () -> x.due(0, 0, 3));
        Check.equal("the last of each", 0, x.counting(3, 11, 2));
    }

    private static void protectedDay() {
        ClinicBooks x = new ClinicBooks();
        x.schedule(1, 2, 5, 0, 0);
        Check.equal("no dose", -1, x.protectedDay(0, 0, 1));
        x.dose(0, 0, 1, 0, 0);
        Check.equal("one of two", -1, x.protectedDay(0, 0, 1));
        x.dose(0, 0, 1, 0, 9);
        Check.equal("two of two", 9, x.protectedDay(0, 0, 1));
        x.dose(0, 0, 1, 0, 5);
        Check.equal("an earlier one is found", 5, x.protectedDay(0, 0, 1));
        x.strike(0, 2);
        Check.equal("and struck", 9, x.protectedDay(0, 0, 1));
        x.dose(0, 1, 0, 0, 0);
        Check.equal("from day 0", 0, x.protectedDay(0, 1, 0));
    }

    private static void due() {
        ClinicBooks x = new ClinicBooks();
        x.schedule(1, 3, 5, 0, 0);
        Check.equal("none counts", 0, x.due(0, 0, 1));
        x.dose(0, 0, 1, 0, 10);
        Check.equal("behind the first", 15, x.due(0, 0, 1));
        x.dose(0, 0, 1, 0, 14);
        Check.equal("one that does not count", 15, x.due(0, 0, 1));
        x.dose(0, 0, 1, 0, 30);
        Check.equal("a gap of 0", 30, x.due(0, 0, 1));
        x.dose(0, 0, 1, 0, 30);
        Check.equal("protected", -1, x.due(0, 0, 1));
        x.recall(0, 0, 0, 40000);
        Check.equal("all recalled", 0, x.due(0, 0, 1));
    }

    private static void coverage() {
        ClinicBooks x = new ClinicBooks();
        x.schedule(1, 2, 5, 0, 0);
        Check.equal("nobody", 0, x.coverage(0, 0, MAX));
        x.dose(0, 0, 0, 0, 10);
        x.dose(0, 11, 0, 0, 0);
        x.dose(0, 5, 1, 0, 10);
        Check.equal("before any", 0, x.coverage(0, 0, -1));
        Check.equal("before all days", 0, x.coverage(0, 0, MIN));
        Check.equal("on day 0", 1, x.coverage(0, 0, 0));
        Check.equal("the day before", 1, x.coverage(0, 0, 9));
        Check.equal("on the day", 2, x.coverage(0, 0, 10));
        Check.equal("behind all days", 2, x.coverage(0, 0, MAX));
        Check.equal("one of two doses", 0, x.coverage(0, 1, MAX));
        Check.equal("no dose of it", 0, x.coverage(0, 2, MAX));
        Check.equal("another clinic", 0, x.coverage(1, 0, MAX));
        x.strike(0, 1);
        Check.equal("one struck", 1, x.coverage(0, 0, MAX));
        x.recall(0, 0, 10, 10);
        Check.equal("the other recalled", 0, x.coverage(0, 0, MAX));
    }

    private static void coverageOfNames() {
        ClinicBooks x = new ClinicBooks();
        x.dose(0, 4, 0, 0, 10);
        x.dose(0, 7, 0, 0, 20);
        x.dose(0, 9, 0, 0, 30);
        Check.equal("three names", 3, x.coverage(0, 0, 30));
        x.same(0, 9, 4);
        Check.equal("two names", 2, x.coverage(0, 0, 30));
        Check.equal("by the first day", 1, x.coverage(0, 0, 10));
        x.same(0, 1, 4);
        Check.equal("a name without a dose of its own", 2, x.coverage(0, 0, 30));
        x.same(0, 1, 7);
        Check.equal("one name", 1, x.coverage(0, 0, 30));
    }

    private static void coverageRefused() {
        ClinicBooks x = new ClinicBooks();
        for (int bad : new int[] {-1, 4, MIN, MAX}) {
            Check.argument("coverage clinic " + bad, () -> x.coverage(bad, 0, 0));
            Check.argument("coverage vaccine " + bad, () -> x.coverage(0, bad, 0));
        }
        Check.argument("coverage vaccine 3", () -> x.coverage(0, 3, 0));
        Check.equal("a day above the last", 0, x.coverage(0, 0, 40001));
        Check.equal("a day below 0", 0, x.coverage(0, 0, -5));
    }

    private static void lotList() {
        ClinicBooks x = new ClinicBooks();
        int[] persons = {7, 2, 11, 2, 0};
        for (int p : persons) {
            x.dose(0, p, p % 3, 6, 3);
        }
        x.dose(0, 5, 0, 5, 3);
        x.same(0, 0, 7);
        x.recall(0, 6, 0, 40000);
        int[] want = {0, 2, 7, 11, -1, -1};
        for (int i = 0; i < want.length; i++) {
            Check.equal("lotList " + i, want[i], x.lotList(0, 6, i));
        }
        x.strike(0, 1);
        Check.equal("another dose of 2 stands", 2, x.lotList(0, 6, 1));
        x.strike(0, 3);
        Check.equal("both are struck", 7, x.lotList(0, 6, 1));
        Check.equal("three are left", -1, x.lotList(0, 6, 3));
        Check.equal("another lot", 5, x.lotList(0, 5, 0));
    }

    private static void lotListByWhatIsKnown() {
        ClinicBooks x = new ClinicBooks();
        x.dose(0, 7, 0, 9, 3);
        x.dose(1, 3, 0, 9, 3);
        Check.equal("its own alone", 7, x.lotList(0, 9, 0));
        Check.carry(x, 1, 0);
        Check.equal("another's, too", 3, x.lotList(0, 9, 0));
        Check.equal("behind it", 7, x.lotList(0, 9, 1));
        x.strike(1, 0);
        Check.equal("the strike is not known", 3, x.lotList(0, 9, 0));
        Check.carry(x, 1, 0);
        Check.equal("now it is", 7, x.lotList(0, 9, 0));
    }

    private static void lotListNone() {
        ClinicBooks x = new ClinicBooks();
        x.dose(0, 7, 0, 0, 3);
        for (int bad : new int[] {-1, MIN, MAX}) {
            Check.equal("lotList clinic " + bad, -1, x.lotList(bad, 0, 0));
            Check.equal("lotList lot " + bad, -1, x.lotList(0, bad, 0));
            Check.equal("lotList i " + bad, -1, x.lotList(0, 0, bad));
        }
        Check.equal("lotList clinic 4", -1, x.lotList(4, 0, 0));
        Check.equal("lotList lot 10", -1, x.lotList(0, 10, 0));
        Check.equal("lotList i 1", -1, x.lotList(0, 0, 1));
    }

    private static void whoIs() {
        ClinicBooks x = new ClinicBooks();
        x.same(0, 10, 8);
        x.same(0, 6, 4);
        Check.equal("the least of two", 8, x.whoIs(0, 10));
        x.same(1, 8, 6);
        Check.equal("not known", 8, x.whoIs(0, 10));
        Check.carry(x, 1, 0);
        for (int p : new int[] {4, 6, 8, 10}) {
            Check.equal("a row of them " + p, 4, x.whoIs(0, p));
        }
        Check.equal("another person", 5, x.whoIs(0, 5));
        x.same(0, 0, 10);
        for (int p : new int[] {0, 4, 6, 8, 10}) {
            Check.equal("a longer row " + p, 0, x.whoIs(0, p));
        }
        Check.equal("without that of book 0", 6, x.whoIs(1, 8));
    }

    private static void whoIsNone() {
        ClinicBooks x = new ClinicBooks();
        for (int bad : new int[] {-1, MIN, MAX}) {
            Check.equal("whoIs clinic " + bad, -1, x.whoIs(bad, 0));
            Check.equal("whoIs person " + bad, -1, x.whoIs(0, bad));
        }
        Check.equal("whoIs clinic 4", -1, x.whoIs(4, 0));
        Check.equal("whoIs person 12", -1, x.whoIs(0, 12));
        Check.equal("whoIs of the last", 11, x.whoIs(3, 11));
    }

    private static long value(long kind, long clinic, long number, long[] n) {
        return (((((kind * 31 + clinic) * 31 + number) * 1000003 + n[0]) * 1000003 + n[1]) * 1000003 + n[2])
                * 1000003 + n[3];
    }

    private static void sum() {
        ClinicBooks x = new ClinicBooks();
        x.dose(2, 5, 1, 3, 77);
        long want = value(1, 2, 0, new long[] {5, 1, 3, 77});
        Check.equal("sum of a dose", want, x.sum(2));
        x.strike(2, 0);
        want += value(2, 2, 1, new long[] {0, 0, 0, 0});
        Check.equal("and a strike", want, x.sum(2));
        x.recall(2, 4, 10, 20);
        want += value(3, 2, 2, new long[] {4, 10, 20, 0});
        Check.equal("and a recall", want, x.sum(2));
        x.same(2, 8, 6);
        want += value(4, 2, 3, new long[] {8, 6, 0, 0});
        Check.equal("and a same", want, x.sum(2));
        Check.equal("another clinic's", 0, x.sum(3));
    }

    private static void sumOfManyBooks() {
        ClinicBooks x = new ClinicBooks();
        x.same(0, 8, 6);
        x.same(3, 8, 6);
        long zero = value(4, 0, 0, new long[] {8, 6, 0, 0});
        long three = value(4, 3, 0, new long[] {8, 6, 0, 0});
        Check.carry(x, 3, 0);
        Check.equal("both", zero + three, x.sum(0));
        Check.equal("its own", three, x.sum(3));
    }

    private static void sumRefused() {
        ClinicBooks x = new ClinicBooks();
        for (int bad : new int[] {-1, 4, MIN, MAX}) {
            Check.argument("sum of clinic " + bad, () -> x.sum(bad));
        }
    }

    private static void judgementsChangeNothing() {
        ClinicBooks x = new ClinicBooks();
        x.dose(0, 5, 1, 3, 77);
        x.same(0, 5, 2);
        x.write(0, 1);
        String before = Check.seen(x);
        for (int round = 0; round < 2; round++) {
            Check.equal("counting", 1, x.counting(0, 2, 1));
            Check.equal("protectedDay", 77, x.protectedDay(0, 2, 1));
            Check.equal("due", -1, x.due(0, 2, 1));
            Check.equal("coverage", 1, x.coverage(0, 1, 77));
            Check.equal("lotList", 5, x.lotList(0, 3, 0));
            Check.equal("whoIs", 2, x.whoIs(0, 5));
            Check.equal("another clinic's whoIs", 5, x.whoIs(1, 5));
            Check.equal("another clinic's counting", 0, x.counting(1, 2, 1));
        }
        Check.equal("asking changes nothing", before, Check.seen(x));
    }
}
