import java.math.BigInteger;

/** The boundary cases of promises 14 to 20, each under the words of the document that name it. */
final class JudgementBoundary {
    private static final int MIN = Integer.MIN_VALUE;
    private static final int MAX = Integer.MAX_VALUE;
    private static final int[] NO_CLINICS = {MIN, -1, 4, MAX};
    private static final int[] NO_PERSONS = {MIN, -1, 12, MAX};
    private static final int[] NO_VACCINES = {MIN, -1, 3, MAX};
    private static final int[] NO_LOTS = {MIN, -1, 10, MAX};

    private JudgementBoundary() {
    }

    static void run() {
        terms();
        counted();
        coverages();
        lotLists();
        names();
        sums();
        Sentences.test(Sentences.TERMS, "An object is used for at most 512 calls after it has been made",
                JudgementBoundary::theLastCall);
    }

    private static void terms() {
        Sentences.test(Sentences.TERMS, "WHAT A CLINIC SAYS it says by all entries that it knows",
                JudgementBoundary::lastKnownAndFirstUnknown);
        Sentences.test(Sentences.TERMS, "no RECALL of its lot has from <= day <= to",
                JudgementBoundary::recalledDays);
        Sentences.test(Sentences.TERMS, "no STRIKE in its book names it",
                JudgementBoundary::strikesOfTheBook);
        Sentences.test(Sentences.TERMS, "its day is not before the day of the last of these and gap k",
                JudgementBoundary::daysAtTheGap);
        Sentences.test(Sentences.TERMS, "if fewer than the schedule's doses do so far",
                JudgementBoundary::dosesBeyondTheSchedule);
        Sentences.test(Sentences.TERMS, "by days, of one day by clinics, and then by numbers",
                JudgementBoundary::dosesOfOneDay);
    }

    private static void counted() {
        Sentences.test(14, "IllegalArgumentException if there is no such clinic, person or vaccine",
                () -> refusedCases(Calls.COUNTING));
        Sentences.test(14, "How many doses of a person and a vaccine COUNT",
                JudgementBoundary::countingFromNoneToAll);
        Sentences.test(15, "Throws as counting.", () -> refusedCases(Calls.PROTECTED_DAY));
        Sentences.test(15, "NONE if it is not", JudgementBoundary::protectedOrNot);
        Sentences.test(16, "Throws as counting.", () -> refusedCases(Calls.DUE));
        Sentences.test(16, "0 if none does", JudgementBoundary::dueIfNoneCounts);
        Sentences.test(16, "NONE if it is protected", JudgementBoundary::dueIfProtected);
        Sentences.test(16, "The least day on which another dose would count behind those that do",
                JudgementBoundary::dueIsTheLeastDay);
    }

    private static void coverages() {
        Sentences.test(17, "IllegalArgumentException if there is no such clinic or vaccine",
                JudgementBoundary::coverageOfNothing);
        Sentences.test(17, "protected by a day", JudgementBoundary::coverageByDays);
        Sentences.test(17, "(valid or not)", JudgementBoundary::coverageOfInvalidDoses);
        Sentences.test(17, "How many NAMES of persons", JudgementBoundary::coverageFromNobodyToAll);
    }

    private static void lotLists() {
        Sentences.test(18, "NONE if there is none such", JudgementBoundary::lotListBeyondItsEnd);
        Sentences.test(18, "or no such clinic or lot", JudgementBoundary::lotListOfNothing);
        Sentences.test(18, "(0 is the least)", JudgementBoundary::lotListOfAll);
        Sentences.test(18, "that is not struck", JudgementBoundary::lotListWithoutTheStruck);
        Sentences.test(18, "by the number that stands in the dose",
                JudgementBoundary::lotListByNumbersNotNames);
    }

    private static void names() {
        Sentences.test(19, "NONE if there is none such", JudgementBoundary::whoIsNobody);
        Sentences.test(19, "The NAME of a person, for a clinic", JudgementBoundary::namesAlongARow);
    }

    private static void sums() {
        Sentences.test(20, "IllegalArgumentException if there is no such clinic",
                JudgementBoundary::sumOfNoClinic);
        Sentences.test(20, "The SUM, for a clinic", JudgementBoundary::sumOfNothing);
        Sentences.test(Sentences.TERMS, "(all wraps)", JudgementBoundary::sumsThatWrap);
        Sentences.test(Sentences.TERMS, "those numbers that are none 0", JudgementBoundary::sumOfNoNumbers);
    }

    /** Clinic 1 knows four entries of book 0: of each kind, one that is the last of these, and one just behind. */
    private static void lastKnownAndFirstUnknown() {
        for (int behind = 0; behind <= 1; behind++) {
            boolean known = behind == 0;
            State strike = fourOfFive(behind, Calls.STRIKE, 0, 0);
            strike.answers(known ? -1 : 5, Calls.PROTECTED_DAY, 1, 1, 0);
            strike.answers(known ? -1 : 1, Calls.LOT_LIST, 1, 9, 0);
            State recall = fourOfFive(behind, Calls.RECALL, 0, 9, 5, 5);
            recall.answers(known ? -1 : 5, Calls.PROTECTED_DAY, 1, 1, 0);
            State same = fourOfFive(behind, Calls.SAME, 0, 7, 1);
            same.answers(known ? 1 : 7, Calls.WHO_IS, 1, 7);
            same.answers(known ? 5 : -1, Calls.PROTECTED_DAY, 1, 7, 0);
            State dose = fourOfFive(behind, Calls.DOSE, 0, 2, 0, 9, 8);
            dose.answers(known ? 1 : 0, Calls.COUNTING, 1, 2, 0);
            dose.answers(known ? 2 : 1, Calls.COVERAGE, 1, 0, 8);
            dose.answers(known ? 2 : -1, Calls.LOT_LIST, 1, 9, 1);
        }
    }

    private static State fourOfFive(int behind, int kind, int... a) {
        State state = new State(Calls.NAMES[kind] + (behind == 0 ? " known" : " not known"))
                .with(Calls.DOSE, 0, 1, 0, 9, 5).filled(0, 2 + behind).with(kind, a).filled(0, 1 - behind)
                .with(Calls.WRITE, 0, 0).with(Calls.TEAR, 0, 2).with(Calls.LOAD, 1, 0);
        state.answers(4, Calls.KNOWN, 1, 0);
        state.answers(5, Calls.KNOWN, 0, 0);
        return state;
    }

    private static void recalledDays() {
        int[][] rows = {{0, 0}, {0, 1}, {10, 20}, {10, 10}, {39999, 40000}, {40000, 40000}, {0, 40000}};
        int[] days = {0, 1, 2, 9, 10, 11, 19, 20, 21, 39998, 39999, 40000};
        for (int[] row : rows) {
            for (int day : days) {
                boolean recalled = row[0] <= day && day <= row[1];
                State state = new State("recalled from " + row[0] + " to " + row[1])
                        .with(Calls.DOSE, 0, 1, 0, 9, day).with(Calls.RECALL, 0, 9, row[0], row[1]);
                state.answers(recalled ? 0 : 1, Calls.COUNTING, 0, 1, 0);
                state.answers(recalled ? -1 : day, Calls.PROTECTED_DAY, 0, 1, 0);
                State before = new State("recalled before the dose")
                        .with(Calls.RECALL, 0, 9, row[0], row[1]).with(Calls.DOSE, 0, 1, 0, 9, day);
                before.answers(recalled ? 0 : 1, Calls.COUNTING, 0, 1, 0);
                State other = new State("another lot")
                        .with(Calls.RECALL, 0, 8, row[0], row[1]).with(Calls.DOSE, 0, 1, 0, 9, day);
                other.answers(1, Calls.COUNTING, 0, 1, 0);
            }
        }
    }

    private static void strikesOfTheBook() {
        // The 24th entry strikes the first; of the book's copy elsewhere the last page is lacking.
        State state = new State("struck by the last entry").with(Calls.DOSE, 0, 1, 0, 9, 5).filled(0, 22)
                .with(Calls.STRIKE, 0, 0).with(Calls.WRITE, 0, 0).with(Calls.WRITE, 0, 1).with(Calls.TEAR, 1, 6)
                .with(Calls.LOAD, 1, 0).with(Calls.LOAD, 2, 1);
        state.answers(0, Calls.COUNTING, 0, 1, 0);
        state.answers(0, Calls.COUNTING, 1, 1, 0);
        state.answers(20, Calls.KNOWN, 2, 0);
        state.answers(1, Calls.COUNTING, 2, 1, 0);
        state.answers(0, Calls.COUNTING, 3, 1, 0);
        State two = new State("entry 0 of two books").with(Calls.DOSE, 0, 1, 0, 9, 5)
                .with(Calls.DOSE, 3, 2, 0, 9, 6).with(Calls.STRIKE, 3, 0).carried(3, 0);
        two.answers(5, Calls.PROTECTED_DAY, 0, 1, 0);
        two.hasNone(Calls.PROTECTED_DAY, 0, 2, 0);
    }

    private static void daysAtTheGap() {
        for (int gap : new int[] {0, 1, 2, 999, 1000}) {
            for (int k = 1; k <= 3; k++) {
                int[] gaps = {0, 0, 0};
                gaps[k - 1] = gap;
                State state = new State("gap " + k + " of " + gap)
                        .with(Calls.SCHEDULE, 0, 4, gaps[0], gaps[1], gaps[2]);
                for (int i = 0; i < k; i++) {
                    state.with(Calls.DOSE, 0, 0, 0, 0, 100);
                }
                if (gap > 0) {
                    state.with(Calls.DOSE, 0, 0, 0, 0, 100 + gap - 1);
                }
                state.answers(k, Calls.COUNTING, 0, 0, 0);
                state.answers(100 + gap, Calls.DUE, 0, 0, 0);
                state.with(Calls.DOSE, 0, 0, 0, 0, 100 + gap);
                state.answers(k + 1, Calls.COUNTING, 0, 0, 0);
            }
        }
        lastDaysOfAll();
    }

    private static void lastDaysOfAll() {
        State state = new State("the last days").with(Calls.SCHEDULE, 0, 2, 1000, 0, 0)
                .with(Calls.DOSE, 0, 0, 0, 0, 39000);
        state.answers(40000, Calls.DUE, 0, 0, 0);
        state.with(Calls.DOSE, 0, 0, 0, 0, 39999);
        state.answers(1, Calls.COUNTING, 0, 0, 0);
        state.with(Calls.DOSE, 0, 0, 0, 0, 40000);
        state.answers(40000, Calls.PROTECTED_DAY, 0, 0, 0);
        State late = new State("too late").with(Calls.SCHEDULE, 0, 2, 1000, 0, 0)
                .with(Calls.DOSE, 0, 0, 0, 0, 39001).with(Calls.DOSE, 0, 0, 0, 0, 40000);
        late.answers(1, Calls.COUNTING, 0, 0, 0);
        late.hasNone(Calls.PROTECTED_DAY, 0, 0, 0);
    }

    private static void dosesBeyondTheSchedule() {
        for (int doses = 1; doses <= 4; doses++) {
            State state = new State(doses + " doses").with(Calls.SCHEDULE, 1, doses, 0, 0, 0);
            for (int given = 1; given <= 6; given++) {
                state.with(Calls.DOSE, 0, 11, 1, 9, 10 * given);
                state.answers(Math.min(doses, given), Calls.COUNTING, 0, 11, 1);
                state.answers(given < doses ? -1 : 10 * doses, Calls.PROTECTED_DAY, 0, 11, 1);
            }
        }
    }

    private static void dosesOfOneDay() {
        // Four doses of one day in four books: those that count are as many, whichever they are.
        State state = new State("one day in four books").with(Calls.SCHEDULE, 0, 3, 0, 1, 0);
        for (int c = 3; c >= 0; c--) {
            state.with(Calls.DOSE, c, c, 0, 9, 50).with(Calls.SAME, c, c, (c + 1) % 4);
        }
        state.carried(1, 0).carried(2, 0).carried(3, 0);
        for (int p = 0; p < 4; p++) {
            state.answers(2, Calls.COUNTING, 0, p, 0);
            state.answers(51, Calls.DUE, 0, p, 0);
        }
        State later = new State("written later, given earlier").with(Calls.SCHEDULE, 0, 2, 10, 0, 0)
                .with(Calls.DOSE, 0, 1, 0, 9, 9).with(Calls.DOSE, 0, 1, 0, 9, 10).with(Calls.DOSE, 0, 1, 0, 9, 0);
        later.answers(10, Calls.PROTECTED_DAY, 0, 1, 0);
    }

    private static void refusedCases(int kind) {
        for (State state : States.all()) {
            for (int clinic : NO_CLINICS) {
                state.refusesArgument(kind, clinic, 0, 0);
            }
            for (int person : NO_PERSONS) {
                state.refusesArgument(kind, 0, person, 0);
            }
            for (int vaccine : NO_VACCINES) {
                state.refusesArgument(kind, 0, 0, vaccine);
            }
            state.refusesArgument(kind, MIN, MIN, MIN);
            state.refusesArgument(kind, MAX, MAX, MAX);
        }
        long none = kind == Calls.PROTECTED_DAY ? -1 : 0;
        States.blank().answers(none, kind, 0, 0, 0);
        States.blank().answers(none, kind, 3, 11, 2);
    }

    private static void countingFromNoneToAll() {
        State blank = States.blank();
        for (int c = 0; c < 4; c++) {
            blank.answers(0, Calls.COUNTING, c, 0, 0);
            blank.answers(0, Calls.COUNTING, c, 11, 2);
        }
        // All 96 entries are doses of one person, known at one clinic.
        State all = new State("96 doses").with(Calls.SCHEDULE, 2, 4, 1000, 1000, 1000);
        for (int c = 0; c < 4; c++) {
            for (int i = 0; i < 24; i++) {
                all.with(Calls.DOSE, c, 11, 2, 9, 40000 - 100 * i - c);
            }
        }
        all.carried(0, 3).carried(1, 3).carried(2, 3);
        // Clinic 3 gave them on days 37697, 37797 and so on up to 39997: the first counts, and two behind it.
        all.answers(3, Calls.COUNTING, 3, 11, 2);
        all.answers(37697 + 3 * 1000, Calls.DUE, 3, 11, 2);
    }

    private static void protectedOrNot() {
        State state = new State("two doses are wanted").with(Calls.SCHEDULE, 0, 2, 0, 0, 0);
        state.hasNone(Calls.PROTECTED_DAY, 0, 0, 0);
        state.with(Calls.DOSE, 0, 0, 0, 0, 0);
        state.hasNone(Calls.PROTECTED_DAY, 0, 0, 0);
        state.with(Calls.DOSE, 0, 0, 0, 0, 0);
        state.answers(0, Calls.PROTECTED_DAY, 0, 0, 0);
        state.hasNone(Calls.PROTECTED_DAY, 1, 0, 0);
        state.hasNone(Calls.PROTECTED_DAY, 0, 1, 0);
        state.hasNone(Calls.PROTECTED_DAY, 0, 0, 1);
        state.with(Calls.STRIKE, 0, 0);
        state.hasNone(Calls.PROTECTED_DAY, 0, 0, 0);
        State last = new State("the last day").with(Calls.DOSE, 3, 11, 2, 9, 40000);
        last.answers(40000, Calls.PROTECTED_DAY, 3, 11, 2);
        last.with(Calls.RECALL, 3, 9, 40000, 40000);
        last.hasNone(Calls.PROTECTED_DAY, 3, 11, 2);
    }

    private static void dueIfNoneCounts() {
        State state = new State("gaps of 1000").with(Calls.SCHEDULE, 0, 4, 1000, 1000, 1000);
        state.answers(0, Calls.DUE, 0, 0, 0);
        state.with(Calls.DOSE, 0, 0, 0, 0, 40000);
        state.answers(41000, Calls.DUE, 0, 0, 0);
        state.answers(0, Calls.DUE, 0, 1, 0);
        state.answers(0, Calls.DUE, 1, 0, 0);
        state.with(Calls.STRIKE, 0, 0);
        state.answers(0, Calls.DUE, 0, 0, 0);
        State recalled = new State("recalled").with(Calls.DOSE, 0, 0, 0, 0, 7).with(Calls.RECALL, 0, 0, 7, 7);
        recalled.answers(0, Calls.DUE, 0, 0, 0);
    }

    private static void dueIfProtected() {
        for (int doses = 1; doses <= 4; doses++) {
            State state = new State(doses + " doses").with(Calls.SCHEDULE, 0, doses, 5, 5, 5);
            for (int k = 1; k <= doses; k++) {
                state.with(Calls.DOSE, 0, 0, 0, 0, 5 * k);
                state.answers(k == doses ? -1 : 5 * (k + 1), Calls.DUE, 0, 0, 0);
            }
            state.with(Calls.DOSE, 0, 0, 0, 0, 40000);
            state.hasNone(Calls.DUE, 0, 0, 0);
            state.with(Calls.STRIKE, 0, doses);
            state.hasNone(Calls.DUE, 0, 0, 0);
        }
    }

    private static void dueIsTheLeastDay() {
        for (int gap : new int[] {0, 1, 1000}) {
            State state = new State("behind day 39000").with(Calls.SCHEDULE, 0, 2, gap, 0, 0)
                    .with(Calls.DOSE, 0, 0, 0, 0, 39000);
            state.answers(39000 + gap, Calls.DUE, 0, 0, 0);
            ClinicBooks early = state.books();
            early.dose(0, 0, 0, 0, 39000 + gap - 1);
            // With a gap of 0 the earlier dose comes first, and both count.
            Check.equal("a day before", gap == 0 ? 2 : 1, early.counting(0, 0, 0));
            ClinicBooks onTheDay = state.books();
            onTheDay.dose(0, 0, 0, 0, 39000 + gap);
            Check.equal("on the day", 39000 + gap, onTheDay.protectedDay(0, 0, 0));
        }
        State last = new State("beyond the last day").with(Calls.SCHEDULE, 0, 2, 1, 0, 0)
                .with(Calls.DOSE, 0, 0, 0, 0, 40000);
        last.answers(40001, Calls.DUE, 0, 0, 0);
    }

    private static void coverageOfNothing() {
        for (State state : States.all()) {
            for (int clinic : NO_CLINICS) {
                state.refusesArgument(Calls.COVERAGE, clinic, 0, 0);
                state.refusesArgument(Calls.COVERAGE, clinic, 0, -1);
            }
            for (int vaccine : NO_VACCINES) {
                state.refusesArgument(Calls.COVERAGE, 0, vaccine, 0);
                state.refusesArgument(Calls.COVERAGE, 0, vaccine, MAX);
            }
        }
        States.blank().answers(0, Calls.COVERAGE, 0, 0, 0);
        States.blank().answers(0, Calls.COVERAGE, 3, 2, 40000);
    }

    private static void coverageByDays() {
        State state = new State("protected from day 0, 20 and 40000").with(Calls.DOSE, 0, 0, 0, 0, 0)
                .with(Calls.DOSE, 0, 5, 0, 0, 20).with(Calls.DOSE, 0, 11, 0, 0, 40000);
        int[] days = {MIN, -1, 0, 1, 19, 20, 21, 39999, 40000, 40001, MAX};
        int[] want = {0, 0, 1, 1, 1, 2, 2, 2, 3, 3, 3};
        for (int i = 0; i < days.length; i++) {
            state.answers(want[i], Calls.COVERAGE, 0, 0, days[i]);
            state.answers(0, Calls.COVERAGE, 0, 1, days[i]);
            state.answers(0, Calls.COVERAGE, 1, 0, days[i]);
            States.blank().answers(0, Calls.COVERAGE, 0, 0, days[i]);
        }
    }

    private static void coverageOfInvalidDoses() {
        State state = new State("struck and recalled").with(Calls.DOSE, 0, 0, 0, 0, 0).with(Calls.STRIKE, 0, 0)
                .with(Calls.DOSE, 0, 1, 0, 1, 0).with(Calls.RECALL, 0, 1, 0, 0);
        state.answers(0, Calls.COVERAGE, 0, 0, 40000);
        state.with(Calls.DOSE, 0, 1, 0, 2, 0);
        state.answers(1, Calls.COVERAGE, 0, 0, 40000);
        state.with(Calls.SAME, 0, 0, 1);
        state.answers(1, Calls.COVERAGE, 0, 0, 40000);
    }

    private static void coverageFromNobodyToAll() {
        ClinicBooks x = new ClinicBooks();
        for (int p = 0; p < 12; p++) {
            Check.equal("so far", p, x.coverage(2, 1, 40000));
            x.dose(2, p, 1, p % 10, p);
        }
        Check.equal("all twelve", 12, x.coverage(2, 1, 11));
        Check.equal("all but the last", 11, x.coverage(2, 1, 10));
        for (int p = 11; p > 0; p--) {
            x.same(2, p, p - 1);
            Check.equal("one name less", p, x.coverage(2, 1, 40000));
        }
        Check.equal("one name, from the first day", 1, x.coverage(2, 1, 0));
    }

    private static void lotListBeyondItsEnd() {
        State state = new State("three persons of lot 9").with(Calls.DOSE, 0, 11, 0, 9, 0)
                .with(Calls.DOSE, 0, 0, 0, 9, 0).with(Calls.DOSE, 0, 5, 0, 9, 0).with(Calls.DOSE, 0, 5, 1, 9, 1);
        int[] want = {0, 5, 11};
        for (int i = 0; i < 3; i++) {
            state.answers(want[i], Calls.LOT_LIST, 0, 9, i);
        }
        for (int i : new int[] {MIN, -1, 3, 4, 11, 12, MAX}) {
            state.hasNone(Calls.LOT_LIST, 0, 9, i);
        }
        state.hasNone(Calls.LOT_LIST, 0, 8, 0);
        state.hasNone(Calls.LOT_LIST, 1, 9, 0);
        for (int lot = 0; lot < 10; lot++) {
            States.blank().hasNone(Calls.LOT_LIST, 0, lot, 0);
        }
    }

    private static void lotListOfNothing() {
        for (State state : States.all()) {
            for (int clinic : NO_CLINICS) {
                state.hasNone(Calls.LOT_LIST, clinic, 0, 0);
            }
            for (int lot : NO_LOTS) {
                state.hasNone(Calls.LOT_LIST, 0, lot, 0);
                state.hasNone(Calls.LOT_LIST, 4, lot, 0);
            }
        }
        State ends = new State("the first and the last lot").with(Calls.DOSE, 3, 1, 0, 0, 0)
                .with(Calls.DOSE, 3, 2, 0, 9, 0);
        ends.answers(1, Calls.LOT_LIST, 3, 0, 0);
        ends.answers(2, Calls.LOT_LIST, 3, 9, 0);
    }

    private static void lotListOfAll() {
        ClinicBooks x = new ClinicBooks();
        for (int p = 11; p >= 0; p--) {
            x.dose(1, p, 0, 4, 0);
            x.dose(1, p, 2, 4, 40000);
        }
        for (int i = 0; i < 12; i++) {
            Check.equal("person " + i, i, x.lotList(1, 4, i));
        }
        Check.equal("no thirteenth", -1, x.lotList(1, 4, 12));
    }

    private static void lotListWithoutTheStruck() {
        State state = new State("two doses").with(Calls.DOSE, 0, 3, 0, 4, 0).with(Calls.DOSE, 0, 3, 0, 4, 0)
                .with(Calls.RECALL, 0, 4, 0, 40000);
        state.answers(3, Calls.LOT_LIST, 0, 4, 0);
        state.hasNone(Calls.LOT_LIST, 0, 4, 1);
        state.with(Calls.STRIKE, 0, 1);
        state.answers(3, Calls.LOT_LIST, 0, 4, 0);
        state.with(Calls.STRIKE, 0, 0);
        state.hasNone(Calls.LOT_LIST, 0, 4, 0);
    }

    private static void lotListByNumbersNotNames() {
        State state = new State("all are one").with(Calls.DOSE, 0, 11, 0, 4, 0).with(Calls.DOSE, 0, 7, 0, 4, 0)
                .with(Calls.SAME, 0, 11, 7).with(Calls.SAME, 0, 7, 0);
        state.answers(0, Calls.WHO_IS, 0, 11);
        state.answers(7, Calls.LOT_LIST, 0, 4, 0);
        state.answers(11, Calls.LOT_LIST, 0, 4, 1);
        state.hasNone(Calls.LOT_LIST, 0, 4, 2);
    }

    private static void whoIsNobody() {
        for (State state : States.all()) {
            for (int clinic : NO_CLINICS) {
                state.hasNone(Calls.WHO_IS, clinic, 0);
            }
            for (int person : NO_PERSONS) {
                state.hasNone(Calls.WHO_IS, 0, person);
                state.hasNone(Calls.WHO_IS, 4, person);
            }
        }
        for (int c = 0; c < 4; c++) {
            for (int p = 0; p < 12; p++) {
                States.blank().answers(p, Calls.WHO_IS, c, p);
            }
        }
    }

    private static void namesAlongARow() {
        State row = new State("a row from 11 to 0");
        State ring = new State("a ring");
        State pairs = new State("pairs that are joined at last");
        for (int p = 11; p > 0; p--) {
            row.with(Calls.SAME, 0, p, p - 1);
            ring.with(Calls.SAME, 0, p - 1, p);
        }
        ring.with(Calls.SAME, 0, 11, 0);
        for (int p = 10; p >= 0; p -= 2) {
            pairs.with(Calls.SAME, 0, p, p + 1);
        }
        pairs.answers(10, Calls.WHO_IS, 0, 11);
        for (int p = 9; p > 0; p -= 2) {
            pairs.with(Calls.SAME, 0, p + 1, p);
        }
        for (int p = 0; p < 12; p++) {
            row.answers(0, Calls.WHO_IS, 0, p);
            ring.answers(0, Calls.WHO_IS, 0, p);
            pairs.answers(0, Calls.WHO_IS, 0, p);
            row.answers(p, Calls.WHO_IS, 1, p);
        }
        State broken = new State("a row that lacks one").with(Calls.SAME, 0, 11, 10).with(Calls.SAME, 0, 9, 8)
                .with(Calls.SAME, 0, 7, 7);
        broken.answers(10, Calls.WHO_IS, 0, 11);
        broken.answers(8, Calls.WHO_IS, 0, 9);
        broken.answers(7, Calls.WHO_IS, 0, 7);
    }

    private static void sumOfNoClinic() {
        for (State state : States.all()) {
            for (int clinic : NO_CLINICS) {
                state.refusesArgument(Calls.SUM, clinic);
            }
        }
    }

    private static void sumOfNothing() {
        for (int c = 0; c < 4; c++) {
            States.blank().answers(0, Calls.SUM, c);
        }
        State other = new State("an entry elsewhere").with(Calls.SAME, 0, 0, 0);
        other.answers(0, Calls.SUM, 3);
    }

    /** By numbers without a bound, so that the wrap is not that of the machine that is tested. */
    private static BigInteger value(int... n) {
        int[] factors = {31, 31, 1000003, 1000003, 1000003, 1000003};
        BigInteger value = BigInteger.valueOf(n[0]);
        for (int k = 0; k < factors.length; k++) {
            value = value.multiply(BigInteger.valueOf(factors[k])).add(BigInteger.valueOf(n[k + 1]));
        }
        return value;
    }

    private static void sumsThatWrap() {
        ClinicBooks x = new ClinicBooks();
        BigInteger want = BigInteger.ZERO;
        for (int i = 0; i < 24; i += 4) {
            x.dose(3, 11, 2, 9, 40000);
            want = want.add(value(1, 3, i, 11, 2, 9, 40000));
            x.strike(3, i);
            want = want.add(value(2, 3, i + 1, i, 0, 0, 0));
            x.recall(3, 9, 0, 40000);
            want = want.add(value(3, 3, i + 2, 9, 0, 40000, 0));
            x.same(3, 11, 10);
            want = want.add(value(4, 3, i + 3, 11, 10, 0, 0));
            Check.equal("sum of " + (i + 4), want.longValue(), x.sum(3));
        }
        Check.equal("it is beyond a long", 1, want.bitLength() > 64 ? 1 : 0);
        for (int c = 0; c < 3; c++) {
            for (int i = 0; i < 24; i++) {
                x.dose(c, i % 12, c, i % 10, 1000 * i);
                want = want.add(value(1, c, i, i % 12, c, i % 10, 1000 * i));
            }
            Check.carry(x, c, 3);
            Check.equal("sum with book " + c, want.longValue(), x.sum(3));
        }
    }

    private static void sumOfNoNumbers() {
        State same = new State("a same of person 0").with(Calls.SAME, 0, 0, 0);
        same.answers(value(4, 0, 0, 0, 0, 0, 0).longValue(), Calls.SUM, 0);
        State recall = new State("a recall of day 0").with(Calls.RECALL, 1, 0, 0, 0);
        recall.answers(value(3, 1, 0, 0, 0, 0, 0).longValue(), Calls.SUM, 1);
        State dose = new State("a dose on day 0").with(Calls.DOSE, 2, 0, 0, 0, 0);
        dose.answers(value(1, 2, 0, 0, 0, 0, 0).longValue(), Calls.SUM, 2);
    }

    /** The 512th call of an object that was used in all ways is answered as the first would be. */
    private static void theLastCall() {
        ClinicBooks x = new ClinicBooks();
        x.schedule(0, 2, 5, 0, 0);
        int made = 1;
        for (int c = 0; c < 4; c++) {
            for (int i = 0; i < 24; i++) {
                x.dose(c, i % 12, 0, i % 10, i);
                made++;
            }
        }
        while (made < 508) {
            int c = made % 4;
            x.write(c, made % 3);
            x.load((c + 1 + made % 3) % 4, made % 3);
            x.coverage(c, 0, 40000);
            made += 3;
        }
        while (made < 511) {
            x.coverage(2, 0, 40000);
            made++;
        }
        Check.equal("the 512th call", 12, x.coverage(1, 0, 40000));
    }
}
