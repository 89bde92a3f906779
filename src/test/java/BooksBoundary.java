/** The boundary cases of promises 1 to 6 and 13, each under the words of the document that name it. */
final class BooksBoundary {
    private static final int MIN = Integer.MIN_VALUE;
    private static final int MAX = Integer.MAX_VALUE;
    private static final int[] NO_CLINICS = {MIN, -1, 4, MAX};
    private static final int[] NO_PERSONS = {MIN, -1, 12, MAX};
    private static final int[] NO_VACCINES = {MIN, -1, 3, MAX};
    private static final int[] NO_LOTS = {MIN, -1, 10, MAX};
    private static final int[] NO_DAYS = {MIN, -1, 40001, MAX};
    private static final int[] NO_GAPS = {MIN, -1, 1001, MAX};

    private BooksBoundary() {
    }

    static void run() {
        newObjects();
        schedules();
        doses();
        strikes();
        recalls();
        sames();
        entries();
    }

    private static void newObjects() {
        Sentences.test(1, "Empty books", BooksBoundary::booksAreEmptyAtFirst);
        Sentences.test(1, "blank sticks", BooksBoundary::sticksAreBlankAtFirst);
        Sentences.test(1, "one dose of each vaccine", BooksBoundary::oneDoseAtFirst);
    }

    private static void schedules() {
        Sentences.test(2, "(those that are needed)", BooksBoundary::gapsThatAreNotNeeded);
        Sentences.test(2, "IllegalArgumentException if there is no such vaccine",
                BooksBoundary::scheduleOfNoVaccine);
        Sentences.test(2, "doses is not 1 .. 4", BooksBoundary::scheduleOfNoDoses);
        Sentences.test(2, "or a gap that is needed not 0 .. 1000", BooksBoundary::scheduleOfNoGap);
        Sentences.test(2, "IllegalStateException if there is an entry in any book",
                BooksBoundary::scheduleBehindAnEntry);
        Sentences.test(2, "throws IllegalArgumentException, IllegalStateException",
                BooksBoundary::scheduleRefusedByBoth);
    }

    private static void doses() {
        Sentences.test(3, "IllegalArgumentException if there is no such clinic, person, vaccine, lot or day",
                BooksBoundary::doseOfNothing);
        Sentences.test(3, "A DOSE: its number.", BooksBoundary::doseAtTheEnds);
        Sentences.test(3, "IllegalStateException if the book is full", BooksBoundary::doseInAFullBook);
    }

    private static void strikes() {
        Sentences.test(4, "IllegalArgumentException if there is no such clinic",
                BooksBoundary::strikeOfNoClinic);
        Sentences.test(4, "the entry is no dose of its book", BooksBoundary::strikeOfNoDose);
        Sentences.test(4, "IllegalStateException if that is struck", BooksBoundary::strikeOfTheStruck);
        Sentences.test(4, "or the book is full", BooksBoundary::strikeInAFullBook);
    }

    private static void recalls() {
        Sentences.test(5, "IllegalArgumentException if there is no such clinic, lot or day",
                BooksBoundary::recallOfNothing);
        Sentences.test(5, "or from is above to", BooksBoundary::recallFromAboveTo);
        Sentences.test(5, "IllegalStateException if the book is full", BooksBoundary::recallInAFullBook);
    }

    private static void sames() {
        Sentences.test(6, "IllegalArgumentException if there is no such clinic or person",
                BooksBoundary::sameOfNobody);
        Sentences.test(6, "A SAME: its number.", BooksBoundary::sameAtTheEnds);
        Sentences.test(6, "IllegalStateException if the book is full", BooksBoundary::sameInAFullBook);
    }

    private static void entries() {
        Sentences.test(13, "if clinic c knows it", BooksBoundary::entryThatIsKnown);
        Sentences.test(13, "(0 for those that are none)", BooksBoundary::entryWithoutSomeNumbers);
        Sentences.test(13, "NONE if c does not know such a one", BooksBoundary::entryThatIsNotKnown);
        Sentences.test(13, "or there is no such clinic or w", BooksBoundary::entryOfNoClinicOrW);
        Sentences.test(Sentences.TERMS, "Each clinic has a BOOK of at most 24 ENTRIES, numbered from 0",
                BooksBoundary::booksHaveTwentyFour);
        Sentences.test(Sentences.TERMS, "What throws, or is refused, changes nothing.",
                BooksBoundary::refusedCallsInARow);
    }

    private static void booksAreEmptyAtFirst() {
        State blank = States.blank();
        for (int c = 0; c < 4; c++) {
            blank.answers(0, Calls.SUM, c);
            for (int d = 0; d < 4; d++) {
                blank.answers(0, Calls.KNOWN, c, d);
                blank.hasNone(Calls.ENTRY, c, d, 0, 0);
            }
            blank.refusesArgument(Calls.STRIKE, c, 0);
            blank.answers(0, Calls.SAME, c, 0, 0);
            blank.answers(1, Calls.WRITE, c, 0);
        }
        blank.answers(0, Calls.SCHEDULE, 0, 4, 0, 0, 0);
    }

    private static void sticksAreBlankAtFirst() {
        State blank = States.blank();
        for (int s = 0; s < 3; s++) {
            blank.answers(0, Calls.STICK, s, 0);
            blank.hasNone(Calls.STICK, s, 1);
            blank.answers(0, Calls.STICK, s, 2);
            blank.answers(0, Calls.LOAD, 0, s);
            blank.answers(0, Calls.TEAR, s, 0);
            blank.answers(0, Calls.TEAR, s, 1);
            blank.answers(0, Calls.TEAR, s, MAX);
        }
    }

    private static void oneDoseAtFirst() {
        for (int v = 0; v < 3; v++) {
            State none = States.blank();
            none.answers(0, Calls.DUE, 0, 0, v);
            none.answers(0, Calls.COUNTING, 0, 0, v);
            none.hasNone(Calls.PROTECTED_DAY, 0, 0, v);
            State one = States.blank().with(Calls.DOSE, 0, 0, v, 0, 0);
            one.answers(1, Calls.COUNTING, 0, 0, v);
            one.answers(0, Calls.PROTECTED_DAY, 0, 0, v);
            one.hasNone(Calls.DUE, 0, 0, v);
            one.with(Calls.DOSE, 0, 0, v, 0, 40000);
            one.answers(1, Calls.COUNTING, 0, 0, v);
            one.answers(0, Calls.PROTECTED_DAY, 0, 0, v);
        }
    }

    private static void gapsThatAreNotNeeded() {
        State blank = States.blank();
        for (int gap : NO_GAPS) {
            blank.answers(0, Calls.SCHEDULE, 0, 1, gap, gap, gap);
            blank.answers(0, Calls.SCHEDULE, 0, 2, 0, gap, gap);
            blank.answers(0, Calls.SCHEDULE, 0, 3, 0, 0, gap);
            State one = States.blank().with(Calls.SCHEDULE, 0, 1, gap, gap, gap)
                    .with(Calls.DOSE, 0, 0, 0, 0, 9).with(Calls.DOSE, 0, 0, 0, 0, 9);
            one.answers(9, Calls.PROTECTED_DAY, 0, 0, 0);
            one.hasNone(Calls.DUE, 0, 0, 0);
            State two = States.blank().with(Calls.SCHEDULE, 0, 2, 5, gap, gap)
                    .with(Calls.DOSE, 0, 0, 0, 0, 9).with(Calls.DOSE, 0, 0, 0, 0, 14);
            two.answers(14, Calls.PROTECTED_DAY, 0, 0, 0);
            two.hasNone(Calls.DUE, 0, 0, 0);
            State three = States.blank().with(Calls.SCHEDULE, 0, 3, 5, 6, gap)
                    .with(Calls.DOSE, 0, 0, 0, 0, 9).with(Calls.DOSE, 0, 0, 0, 0, 14)
                    .with(Calls.DOSE, 0, 0, 0, 0, 20);
            three.answers(20, Calls.PROTECTED_DAY, 0, 0, 0);
            three.hasNone(Calls.DUE, 0, 0, 0);
        }
    }

    private static void scheduleOfNoVaccine() {
        State state = States.scheduled();
        for (int vaccine : NO_VACCINES) {
            state.refusesArgument(Calls.SCHEDULE, vaccine, 1, 0, 0, 0);
        }
        state.answers(0, Calls.SCHEDULE, 0, 1, 0, 0, 0);
        state.answers(0, Calls.SCHEDULE, 2, 1, 0, 0, 0);
    }

    private static void scheduleOfNoDoses() {
        State state = States.scheduled();
        for (int doses : new int[] {MIN, -1, 0, 5, MAX}) {
            state.refusesArgument(Calls.SCHEDULE, 0, doses, 0, 0, 0);
        }
        for (int doses = 1; doses <= 4; doses++) {
            state.answers(0, Calls.SCHEDULE, 0, doses, 0, 0, 0);
            State all = States.blank().with(Calls.SCHEDULE, 0, doses, 0, 0, 0);
            for (int k = 1; k < doses; k++) {
                all.with(Calls.DOSE, 0, 0, 0, 0, 40000);
                all.hasNone(Calls.PROTECTED_DAY, 0, 0, 0);
            }
            all.with(Calls.DOSE, 0, 0, 0, 0, 40000);
            all.answers(40000, Calls.PROTECTED_DAY, 0, 0, 0);
        }
    }

    private static void scheduleOfNoGap() {
        State state = States.scheduled();
        for (int gap : NO_GAPS) {
            for (int doses = 2; doses <= 4; doses++) {
                state.refusesArgument(Calls.SCHEDULE, 0, doses, gap, 0, 0);
            }
            state.refusesArgument(Calls.SCHEDULE, 1, 3, 0, gap, 0);
            state.refusesArgument(Calls.SCHEDULE, 1, 4, 0, gap, 0);
            state.refusesArgument(Calls.SCHEDULE, 2, 4, 0, 0, gap);
        }
        for (int gap : new int[] {0, 1, 999, 1000}) {
            state.answers(0, Calls.SCHEDULE, 0, 4, gap, gap, gap);
            State given = States.blank().with(Calls.SCHEDULE, 0, 4, gap, gap, gap);
            for (int k = 0; k < 3; k++) {
                given.with(Calls.DOSE, 0, 0, 0, 0, 7 + k * gap);
                given.answers(7 + (k + 1) * gap, Calls.DUE, 0, 0, 0);
            }
        }
    }

    private static void scheduleBehindAnEntry() {
        for (int c = 0; c < 4; c++) {
            State[] states = {
                new State("a dose").with(Calls.DOSE, c, 0, 0, 0, 0),
                new State("a recall").with(Calls.RECALL, c, 0, 0, 0),
                new State("a same").with(Calls.SAME, c, 0, 0),
                new State("a strike").with(Calls.DOSE, c, 0, 0, 0, 0).with(Calls.STRIKE, c, 0),
            };
            for (State state : states) {
                state.refusesState(Calls.SCHEDULE, 2, 4, 1, 1, 1);
                state.refusesState(Calls.SCHEDULE, 0, 1, 0, 0, 0);
            }
        }
        States.full().refusesState(Calls.SCHEDULE, 0, 2, 1, 1, 1);
        States.scheduled().answers(0, Calls.SCHEDULE, 0, 2, 1, 1, 1);
        refusedEntriesKeepSchedulesOpen();
    }

    private static void refusedEntriesKeepSchedulesOpen() {
        ClinicBooks x = new ClinicBooks();
        Check.argument("a refused dose", () -> x.dose(0, 0, 0, 0, 40001));
        Check.argument("a refused recall", () -> x.recall(0, 0, 1, 0));
        Check.argument("a refused same", () -> x.same(0, 0, 12));
        Check.argument("a refused strike", () -> x.strike(0, 0));
        x.schedule(0, 2, 1000, 0, 0);
        x.dose(0, 0, 0, 0, 0);
        Check.equal("no refused entry stands in a book", 1000, x.due(0, 0, 0));
    }

    private static void scheduleRefusedByBoth() {
        State state = States.mixed();
        state.refusesArgument(Calls.SCHEDULE, 3, 1, 0, 0, 0);
        state.refusesArgument(Calls.SCHEDULE, 0, 0, 0, 0, 0);
        state.refusesArgument(Calls.SCHEDULE, 0, 2, 1001, 0, 0);
    }

    private static void doseOfNothing() {
        for (State state : new State[] {States.blank(), States.mixed(), States.full()}) {
            for (int clinic : NO_CLINICS) {
                state.refusesArgument(Calls.DOSE, clinic, 0, 0, 0, 0);
            }
            for (int person : NO_PERSONS) {
                state.refusesArgument(Calls.DOSE, 0, person, 0, 0, 0);
            }
            for (int vaccine : NO_VACCINES) {
                state.refusesArgument(Calls.DOSE, 0, 0, vaccine, 0, 0);
            }
            for (int lot : NO_LOTS) {
                state.refusesArgument(Calls.DOSE, 0, 0, 0, lot, 0);
            }
            for (int day : NO_DAYS) {
                state.refusesArgument(Calls.DOSE, 0, 0, 0, 0, day);
            }
        }
    }

    private static void doseAtTheEnds() {
        ClinicBooks x = new ClinicBooks();
        Check.equal("the first of all", 0, x.dose(0, 0, 0, 0, 0));
        Check.equal("the last of all", 0, x.dose(3, 11, 2, 9, 40000));
        Check.equal("the first of all again", 1, x.dose(0, 0, 0, 0, 0));
        Check.equal("the last of all again", 1, x.dose(3, 11, 2, 9, 40000));
        Check.equal("the first day", 0, x.protectedDay(0, 0, 0));
        Check.equal("the last day", 40000, x.protectedDay(3, 11, 2));
        Check.equal("the first lot", 0, x.lotList(0, 0, 0));
        Check.equal("the last lot", 11, x.lotList(3, 9, 0));
    }

    private static void doseInAFullBook() {
        for (int c = 0; c < 4; c++) {
            State last = new State("23 entries").filled(c, 23);
            last.answers(23, Calls.DOSE, c, 11, 2, 9, 40000);
            State full = new State("24 entries").filled(c, 23).with(Calls.DOSE, c, 11, 2, 9, 40000);
            full.refusesState(Calls.DOSE, c, 11, 2, 9, 40000);
            full.refusesState(Calls.DOSE, c, 0, 0, 0, 0);
            full.answers(0, Calls.DOSE, (c + 1) % 4, 0, 0, 0, 0);
            full.answers(40000, Calls.PROTECTED_DAY, c, 11, 2);
            full.refusesArgument(Calls.DOSE, c, 12, 0, 0, 0);
        }
    }

    private static void strikeOfNoClinic() {
        for (State state : new State[] {States.blank(), States.mixed(), States.full()}) {
            for (int clinic : NO_CLINICS) {
                state.refusesArgument(Calls.STRIKE, clinic, 0);
                state.refusesArgument(Calls.STRIKE, clinic, MAX);
            }
        }
        State all = new State("a dose in each book");
        for (int c = 0; c < 4; c++) {
            all.with(Calls.DOSE, c, 0, 0, 0, 0);
        }
        all.answers(1, Calls.STRIKE, 0, 0);
        all.answers(1, Calls.STRIKE, 3, 0);
    }

    private static void strikeOfNoDose() {
        State kinds = new State("recall, same, dose, strike, dose")
                .with(Calls.RECALL, 0, 0, 0, 0)
                .with(Calls.SAME, 0, 0, 0)
                .with(Calls.DOSE, 0, 0, 0, 0, 0)
                .with(Calls.STRIKE, 0, 2)
                .with(Calls.DOSE, 0, 0, 0, 0, 0);
        for (int entry : new int[] {MIN, -1, 0, 1, 3, 5, 6, 23, 24, 25, MAX}) {
            kinds.refusesArgument(Calls.STRIKE, 0, entry);
        }
        kinds.answers(5, Calls.STRIKE, 0, 4);
        State other = new State("a dose of another book").with(Calls.DOSE, 1, 0, 0, 0, 0).carried(1, 0);
        other.refusesArgument(Calls.STRIKE, 0, 0);
        other.answers(1, Calls.STRIKE, 1, 0);
        State bare = States.blank();
        for (int entry : new int[] {MIN, -1, 0, 1, 23, 24, MAX}) {
            bare.refusesArgument(Calls.STRIKE, 3, entry);
        }
        State full = States.full();
        for (int entry : new int[] {MIN, -1, 2, 23, 24, MAX}) {
            full.refusesArgument(Calls.STRIKE, 0, entry);
        }
    }

    private static void strikeOfTheStruck() {
        State state = new State("the first and the last dose struck")
                .with(Calls.DOSE, 2, 0, 0, 0, 0)
                .with(Calls.DOSE, 2, 1, 0, 0, 0)
                .with(Calls.DOSE, 2, 2, 0, 0, 0)
                .with(Calls.STRIKE, 2, 0)
                .with(Calls.STRIKE, 2, 2);
        state.refusesState(Calls.STRIKE, 2, 0);
        state.refusesState(Calls.STRIKE, 2, 2);
        state.answers(5, Calls.STRIKE, 2, 1);
        State two = new State("the same number in two books")
                .with(Calls.DOSE, 0, 0, 0, 0, 0).with(Calls.DOSE, 1, 0, 0, 0, 0)
                .with(Calls.STRIKE, 0, 0).carried(0, 1);
        two.answers(1, Calls.STRIKE, 1, 0);
        two.refusesState(Calls.STRIKE, 0, 0);
        State recalled = new State("a recalled dose, not struck")
                .with(Calls.DOSE, 0, 0, 0, 0, 0).with(Calls.RECALL, 0, 0, 0, 0);
        recalled.answers(2, Calls.STRIKE, 0, 0);
    }

    private static void strikeInAFullBook() {
        State last = new State("23 entries").with(Calls.DOSE, 3, 0, 0, 0, 0).filled(3, 22);
        last.answers(23, Calls.STRIKE, 3, 0);
        State full = new State("24 entries").with(Calls.DOSE, 3, 0, 0, 0, 0).filled(3, 23);
        full.refusesState(Calls.STRIKE, 3, 0);
        full.answers(0, Calls.PROTECTED_DAY, 3, 0, 0);
        State end = new State("a dose at the end").filled(3, 23).with(Calls.DOSE, 3, 0, 0, 0, 0);
        end.refusesState(Calls.STRIKE, 3, 23);
        State both = new State("struck, and full").with(Calls.DOSE, 3, 0, 0, 0, 0)
                .with(Calls.STRIKE, 3, 0).filled(3, 22);
        both.refusesState(Calls.STRIKE, 3, 0);
        both.refusesArgument(Calls.STRIKE, 3, 1);
        both.refusesArgument(Calls.STRIKE, 3, 24);
    }

    private static void recallOfNothing() {
        for (State state : new State[] {States.blank(), States.mixed(), States.full()}) {
            for (int clinic : NO_CLINICS) {
                state.refusesArgument(Calls.RECALL, clinic, 0, 0, 0);
            }
            for (int lot : NO_LOTS) {
                state.refusesArgument(Calls.RECALL, 0, lot, 0, 0);
            }
            for (int day : NO_DAYS) {
                state.refusesArgument(Calls.RECALL, 0, 0, day, 40000);
                state.refusesArgument(Calls.RECALL, 0, 0, 0, day);
                state.refusesArgument(Calls.RECALL, 0, 0, day, day);
            }
        }
        State blank = States.blank();
        blank.answers(0, Calls.RECALL, 0, 0, 0, 0);
        blank.answers(0, Calls.RECALL, 3, 9, 40000, 40000);
        blank.answers(0, Calls.RECALL, 3, 9, 0, 40000);
    }

    private static void recallFromAboveTo() {
        State state = States.mixed();
        state.refusesArgument(Calls.RECALL, 0, 0, 1, 0);
        state.refusesArgument(Calls.RECALL, 0, 0, 40000, 39999);
        state.refusesArgument(Calls.RECALL, 0, 0, 40000, 0);
        state.refusesArgument(Calls.RECALL, 0, 0, 20001, 20000);
        state.answers(4, Calls.RECALL, 0, 0, 20000, 20000);
        state.answers(4, Calls.RECALL, 0, 0, 20000, 20001);
        States.full().refusesArgument(Calls.RECALL, 0, 0, 1, 0);
    }

    private static void recallInAFullBook() {
        for (int c = 0; c < 4; c++) {
            State last = new State("23 entries").filled(c, 23);
            last.answers(23, Calls.RECALL, c, 9, 0, 40000);
            State full = new State("24 entries").with(Calls.DOSE, c, 5, 0, 9, 7).filled(c, 23);
            full.refusesState(Calls.RECALL, c, 9, 0, 40000);
            full.answers(7, Calls.PROTECTED_DAY, c, 5, 0);
            full.answers(0, Calls.RECALL, (c + 1) % 4, 9, 0, 40000);
        }
    }

    private static void sameOfNobody() {
        for (State state : new State[] {States.blank(), States.mixed(), States.full()}) {
            for (int clinic : NO_CLINICS) {
                state.refusesArgument(Calls.SAME, clinic, 0, 0);
            }
            for (int person : NO_PERSONS) {
                state.refusesArgument(Calls.SAME, 0, person, 0);
                state.refusesArgument(Calls.SAME, 0, 0, person);
                state.refusesArgument(Calls.SAME, 0, person, person);
            }
        }
    }

    private static void sameAtTheEnds() {
        ClinicBooks x = new ClinicBooks();
        Check.equal("the first with itself", 0, x.same(0, 0, 0));
        Check.equal("the last with itself", 1, x.same(0, 11, 11));
        Check.equal("they are two", 11, x.whoIs(0, 11));
        Check.equal("the last with the first", 2, x.same(0, 11, 0));
        Check.equal("they are one", 0, x.whoIs(0, 11));
        Check.equal("the same again", 3, x.same(0, 0, 11));
        Check.equal("they stay one", 0, x.whoIs(0, 11));
        Check.equal("in the last book", 0, x.same(3, 0, 11));
    }

    private static void sameInAFullBook() {
        for (int c = 0; c < 4; c++) {
            State last = new State("23 entries").filled(c, 23);
            last.answers(23, Calls.SAME, c, 3, 4);
            State full = new State("24 entries").filled(c, 24);
            full.refusesState(Calls.SAME, c, 3, 4);
            full.refusesState(Calls.SAME, c, 0, 0);
            full.answers(4, Calls.WHO_IS, c, 4);
            full.answers(0, Calls.SAME, (c + 3) % 4, 3, 4);
        }
    }

    private static void entryThatIsKnown() {
        State full = States.full();
        for (int d = 0; d < 4; d++) {
            full.answers(1, Calls.ENTRY, 2, d, 0, 0);
            full.answers(3 * d, Calls.ENTRY, 2, d, 0, 1);
            full.answers(100 * d, Calls.ENTRY, 2, d, 0, 4);
            full.answers(40000, Calls.ENTRY, 2, d, 1, 4);
            full.answers(4, Calls.ENTRY, 2, d, 23, 0);
        }
        State torn = new State("four of nine entries known").filled(0, 9)
                .with(Calls.WRITE, 0, 0).with(Calls.TEAR, 0, 2).with(Calls.LOAD, 1, 0);
        torn.answers(4, Calls.ENTRY, 1, 0, 3, 0);
        torn.hasNone(Calls.ENTRY, 1, 0, 4, 0);
        torn.answers(4, Calls.ENTRY, 0, 0, 8, 0);
        torn.hasNone(Calls.ENTRY, 0, 0, 9, 0);
    }

    private static void entryWithoutSomeNumbers() {
        State state = new State("one of each kind")
                .with(Calls.DOSE, 0, 11, 2, 9, 40000)
                .with(Calls.RECALL, 0, 9, 39999, 40000)
                .with(Calls.SAME, 0, 10, 11)
                .with(Calls.DOSE, 0, 0, 0, 0, 0)
                .with(Calls.STRIKE, 0, 3);
        int[][] want = {{1, 11, 2, 9, 40000}, {3, 9, 39999, 40000, 0}, {4, 10, 11, 0, 0},
            {1, 0, 0, 0, 0}, {2, 3, 0, 0, 0}};
        for (int i = 0; i < want.length; i++) {
            for (int w = 0; w <= 4; w++) {
                state.answers(want[i][w], Calls.ENTRY, 0, 0, i, w);
            }
        }
    }

    private static void entryThatIsNotKnown() {
        State mixed = States.mixed();
        for (int i : new int[] {MIN, -1, 4, 5, 23, 24, MAX}) {
            for (int w = 0; w <= 4; w++) {
                mixed.hasNone(Calls.ENTRY, 0, 0, i, w);
            }
        }
        mixed.hasNone(Calls.ENTRY, 0, 1, 0, 0);
        mixed.hasNone(Calls.ENTRY, 2, 0, 0, 0);
        mixed.hasNone(Calls.ENTRY, 3, 3, 0, 0);
        for (int i : new int[] {MIN, -1, 24, 25, MAX}) {
            States.full().hasNone(Calls.ENTRY, 2, 0, i, 0);
        }
    }

    private static void entryOfNoClinicOrW() {
        State full = States.full();
        for (int clinic : NO_CLINICS) {
            full.hasNone(Calls.ENTRY, clinic, 0, 0, 0);
            full.hasNone(Calls.ENTRY, 2, clinic, 0, 0);
            full.hasNone(Calls.ENTRY, clinic, clinic, 0, 0);
        }
        for (int w : new int[] {MIN, -1, 5, MAX}) {
            full.hasNone(Calls.ENTRY, 2, 0, 0, w);
            full.hasNone(Calls.ENTRY, 2, 0, 23, w);
        }
    }

    private static void booksHaveTwentyFour() {
        ClinicBooks x = new ClinicBooks();
        for (int i = 0; i < 24; i++) {
            for (int c = 0; c < 4; c++) {
                int number = i % 3 == 0 ? x.dose(c, i % 12, i % 3, i % 10, i)
                        : i % 3 == 1 ? x.recall(c, i % 10, i, i) : x.strike(c, i - 2);
                Check.equal("entry of book " + c, i, number);
                Check.equal("known of book " + c, i + 1, x.known(c, c));
            }
        }
        for (int c = 0; c < 4; c++) {
            int clinic = c;
            Check.state("a 25th entry", () -> x.same(clinic, 0, 0));
            Check.equal("still 24", 24, x.known(c, c));
        }
    }

    /** Many refused calls on one object, for a change that only shows when it is made often. */
    private static void refusedCallsInARow() {
        ClinicBooks x = States.full().books();
        String before = Check.seen(x);
        for (int round = 0; round < 40; round++) {
            Check.state("a full book", () -> x.dose(0, 0, 0, 0, 0));
            Check.state("a full book", () -> x.strike(1, 0));
            Check.state("a full book", () -> x.recall(2, 0, 0, 0));
            Check.state("a full book", () -> x.same(3, 0, 0));
            Check.argument("no such page", () -> x.tear(0, -1));
            Check.argument("no such stick", () -> x.write(0, 3));
        }
        Check.equal("many refused calls leave to be seen", before, Check.seen(x));
    }
}
