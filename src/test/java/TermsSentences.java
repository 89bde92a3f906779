import java.lang.reflect.Field;

/** 'What it is' and 'Terms' from their first word: what they say of ordinary use, each under its words. */
final class TermsSentences {
    private static final int TERMS = Sentences.TERMS;
    private static final int MIN = Integer.MIN_VALUE;
    private static final int MAX = Integer.MAX_VALUE;

    private TermsSentences() {
    }

    static void run() {
        whatItIs();
        ranges();
        entries();
        knowing();
        sticks();
        judging();
        sums();
    }

    private static void whatItIs() {
        Sentences.test(TERMS, "Vaccination books of four clinics without a line between them",
                TermsSentences::noLineBetweenThem);
        Sentences.test(TERMS, "each appends to a book of its own", TermsSentences::booksOfTheirOwn);
        Sentences.test(TERMS, "bring parts of books to others", TermsSentences::partsOfBooks);
        Sentences.test(TERMS, "doses, corrections, recalls of lots and persons found to be one"
                + " are judged by what a clinic knows", TermsSentences::judgedByWhatIsKnown);
        Sentences.test(TERMS, "what later calls answer is free", TermsSentences::laterCallsEnd);
    }

    private static void ranges() {
        Sentences.test(TERMS, "CLINICS 0 .. 3", TermsSentences::allClinics);
        Sentences.test(TERMS, "PERSONS 0 .. 11", () -> allOf(0, 11));
        Sentences.test(TERMS, "VACCINES 0 .. 2", () -> allOf(1, 2));
        Sentences.test(TERMS, "LOTS 0 .. 9", () -> allOf(2, 9));
        Sentences.test(TERMS, "DAYS 0 .. 40000", () -> allOf(3, 40000));
        Sentences.test(TERMS, "A vaccine has a SCHEDULE: 1 .. 4 doses, and the GAPS between them, days"
                + " (at first one dose)", TermsSentences::schedulesOfTheirOwn);
        Sentences.test(TERMS, "The constants: `NONE = -1`: There is none.", TermsSentences::constants);
    }

    private static void entries() {
        Sentences.test(TERMS, "DOSE (person, vaccine, lot, day)",
                () -> entryIs(new int[] {1, 5, 1, 3, 77}, Calls.DOSE, 2, 5, 1, 3, 77));
        Sentences.test(TERMS, "STRIKE (a number of an entry of its own book)",
                () -> entryIs(new int[] {2, 1, 0, 0, 0}, Calls.STRIKE, 2, 1));
        Sentences.test(TERMS, "RECALL (lot, from, to)",
                () -> entryIs(new int[] {3, 4, 10, 20, 0}, Calls.RECALL, 2, 4, 10, 20));
        Sentences.test(TERMS, "SAME (two persons)",
                () -> entryIs(new int[] {4, 8, 6, 0, 0}, Calls.SAME, 2, 8, 6));
    }

    private static void knowing() {
        Sentences.test(TERMS, "Clinic c KNOWS of each book d the first KNOWN(c, d) entries; of its own all",
                TermsSentences::theFirstEntries);
        Sentences.test(TERMS, "It has HEARD of each other clinic b that it knew HEARD(c, b, d) entries of d",
                TermsSentences::heardOfEachOther);
    }

    private static void sticks() {
        Sentences.test(TERMS, "STICKS 0 .. 2, blank at first, have PAGES", TermsSentences::threeSticks);
        Sentences.test(TERMS, "To WRITE one, c writes anew: page 0: c, and KNOWN(c, d) for each d",
                TermsSentences::pageZero);
        Sentences.test(TERMS, "then, for each book d, from its entry number LEAST on",
                TermsSentences::eachBookFromItsOwnLeast);
        Sentences.test(TERMS, "the entries, one book behind the other", TermsSentences::entriesAsTheyStand);
        Sentences.test(TERMS, "To TEAR one at n", TermsSentences::tornAtEachPage);
        Sentences.test(TERMS, "To LOAD one at c, page by page: page 0: for each d, HEARD(c, its writer, d)"
                + " becomes what it says", TermsSentences::heardOfTheWriter);
        Sentences.test(TERMS, "of the other pages each entry, in order", TermsSentences::entriesInOrder);
    }

    private static void judging() {
        Sentences.test(TERMS, "PERSONS are ONE if a row of SAME leads from one to the other",
                TermsSentences::rowsOfSame);
        Sentences.test(TERMS, "the NAME of a person is the least number of those who are one with it",
                TermsSentences::leastNumbers);
        Sentences.test(TERMS, "A DOSE is VALID if", TermsSentences::validDoses);
        Sentences.test(TERMS, "For a person and a vaccine, the valid doses of all that are one with it",
                TermsSentences::dosesOfAllThatAreOne);
        Sentences.test(TERMS, "the first COUNTS; a later one COUNTS if fewer than the schedule's doses do so far,"
                + " k of them, and its day is not before", TermsSentences::dosesThatCount);
        Sentences.test(TERMS, "The person is PROTECTED from the day of the last dose of its schedule that counts.",
                TermsSentences::protectedFromTheLast);
    }

    private static void sums() {
        Sentences.test(TERMS, "The SUM is that of all entries known, each as a long:"
                + " (((((kind * 31 + clinic) * 31 + number) * 1000003 + first) * 1000003 + second) * 1000003"
                + " + third) * 1000003 + fourth", TermsSentences::sumOfAllKnown);
        Sentences.test(TERMS, "kind being 1 DOSE, 2 STRIKE, 3 RECALL, 4 SAME", TermsSentences::sumsOfTheKinds);
    }

    private static void noLineBetweenThem() {
        for (int c = 0; c < 4; c++) {
            State state = new State("written at " + c).with(Calls.DOSE, c, 1, 0, 9, 5).with(Calls.SAME, c, 1, 2)
                    .with(Calls.WRITE, c, 0);
            for (int other = 0; other < 4; other++) {
                boolean own = other == c;
                state.answers(own ? 2 : 0, Calls.KNOWN, other, c);
                state.answers(own ? 1 : 0, Calls.COUNTING, other, 1, 0);
                state.answers(own ? 1 : 2, Calls.WHO_IS, other, 2);
                state.answers(own ? 1 : -1, Calls.LOT_LIST, other, 9, 0);
                state.answers(own ? 1 : 0, Calls.COVERAGE, other, 0, 5);
            }
        }
    }

    private static void booksOfTheirOwn() {
        ClinicBooks x = new ClinicBooks();
        for (int i = 0; i < 5; i++) {
            for (int c = 0; c < 4; c++) {
                Check.equal("the next number of book " + c, i, x.dose(c, c + i, 0, c, 10 * c + i));
            }
        }
        for (int c = 0; c < 4; c++) {
            for (int i = 0; i < 5; i++) {
                Check.equal("its person", c + i, x.entry(c, c, i, 1));
                Check.equal("its day", 10 * c + i, x.entry(c, c, i, 4));
            }
        }
    }

    private static void partsOfBooks() {
        State state = new State("two pages of entries").filled(0, 3).filled(1, 5).carried(1, 0)
                .with(Calls.WRITE, 0, 2).with(Calls.TEAR, 2, 2).with(Calls.LOAD, 3, 2);
        state.answers(3, Calls.KNOWN, 3, 0);
        state.answers(1, Calls.KNOWN, 3, 1);
        state.answers(0, Calls.KNOWN, 2, 0);
    }

    /** Clinic 3 learns, one by one, of a dose, a same, a recall and a strike. */
    private static void judgedByWhatIsKnown() {
        ClinicBooks x = new ClinicBooks();
        x.dose(0, 8, 0, 9, 5);
        x.dose(1, 2, 0, 7, 30);
        x.same(1, 8, 2);
        x.recall(2, 9, 5, 5);
        Check.equal("nothing is known", -1, x.protectedDay(3, 8, 0));
        Check.carry(x, 0, 3);
        Check.equal("the dose is known", 5, x.protectedDay(3, 8, 0));
        Check.equal("it is not that of another", -1, x.protectedDay(3, 2, 0));
        Check.carry(x, 1, 3);
        Check.equal("they are one", 5, x.protectedDay(3, 2, 0));
        Check.carry(x, 2, 3);
        Check.equal("the lot is recalled", 30, x.protectedDay(3, 8, 0));
        x.strike(1, 0);
        Check.equal("the correction is not known", 30, x.protectedDay(3, 8, 0));
        Check.carry(x, 1, 3);
        Check.equal("the correction is known", -1, x.protectedDay(3, 8, 0));
        Check.equal("the first clinic knows its own dose alone", 5, x.protectedDay(0, 8, 0));
    }

    /** Free to answer anything, they throw nothing of the machine's (LANGUAGE.md, rule 7). */
    private static void laterCallsEnd() {
        int[] edges = {MIN, -1, 0, 1, 2, 3, 4, 11, 23, 24, 40000, MAX};
        ClinicBooks x = States.full().books();
        for (int call = 0; call < 20000; call++) {
            int[] a = new int[5];
            int rest = call * 31 + call / 19;
            for (int k = 0; k < 5; k++) {
                a[k] = edges[rest % edges.length];
                rest = rest / edges.length + call;
            }
            int kind = call % 19;
            String answer = Check.answerOf(() -> Calls.byBooks(x, kind, a));
            Check.equal(Calls.show(kind, a) + " answers " + answer, 1, !answer.startsWith("throws")
                    || answer.equals("throws.IllegalArgumentException")
                    || answer.equals("throws.IllegalStateException") ? 1 : 0);
        }
    }

    private static void allClinics() {
        for (int c = -1; c <= 4; c++) {
            boolean is = c >= 0 && c <= 3;
            State blank = States.blank();
            blank.answers(is ? 0 : -1, Calls.KNOWN, c, c);
            if (is) {
                blank.answers(0, Calls.SAME, c, 0, 0);
            } else {
                blank.refusesArgument(Calls.SAME, c, 0, 0);
            }
        }
    }

    /** Doses with each of the numbers 0 to the last at one place, and just outside. */
    private static void allOf(int place, int last) {
        int step = last > 100 ? 769 : 1;
        for (int n = 0; n <= last; n += step) {
            roundTrip(place, n);
        }
        roundTrip(place, last);
        States.blank().refusesArgument(Calls.DOSE, doseWith(place, -1));
        States.blank().refusesArgument(Calls.DOSE, doseWith(place, last + 1));
    }

    private static void roundTrip(int place, int n) {
        State state = States.blank().with(Calls.DOSE, doseWith(place, n));
        state.answers(n, Calls.ENTRY, 0, 0, 0, place + 1);
    }

    private static int[] doseWith(int place, int n) {
        int[] a = {0, 1, 1, 1, 1};
        a[place + 1] = n;
        return a;
    }

    private static void schedulesOfTheirOwn() {
        ClinicBooks x = new ClinicBooks();
        x.schedule(0, 2, 7, 0, 0);
        x.schedule(2, 4, 1, 20, 300);
        for (int v = 0; v < 3; v++) {
            x.dose(0, 5, v, 1, 100);
        }
        Check.equal("two doses, 7 days", 107, x.due(0, 5, 0));
        Check.equal("one dose at first", 100, x.protectedDay(0, 5, 1));
        Check.equal("gap 1", 101, x.due(0, 5, 2));
        x.dose(0, 5, 2, 1, 101);
        Check.equal("gap 2", 121, x.due(0, 5, 2));
        x.dose(0, 5, 2, 1, 121);
        Check.equal("gap 3", 421, x.due(0, 5, 2));
        x.dose(0, 5, 2, 1, 421);
        Check.equal("four doses", 421, x.protectedDay(0, 5, 2));
    }

    private static void constants() {
        Check.equal("NONE", -1, ClinicBooks.NONE);
        int open = 0;
        for (Field f : ClinicBooks.class.getFields()) {
            open++;
            Check.equal("the only constant", "NONE", f.getName());
        }
        Check.equal("constants", 1, open);
        Check.equal("there is none", ClinicBooks.NONE, new ClinicBooks().whoIs(0, 12));
    }

    /** The entry behind a same and a dose of book 2, seen by its own clinic and by one that loaded it. */
    private static void entryIs(int[] want, int kind, int... a) {
        State state = new State("a " + Calls.NAMES[kind]).with(Calls.SAME, 2, 0, 0)
                .with(Calls.DOSE, 2, 0, 0, 0, 0).with(kind, a).carried(2, 1);
        for (int w = 0; w < want.length; w++) {
            state.answers(want[w], Calls.ENTRY, 2, 2, 2, w);
            state.answers(want[w], Calls.ENTRY, 1, 2, 2, w);
        }
    }

    private static void theFirstEntries() {
        for (int pages = 1; pages <= 4; pages++) {
            State state = new State("known by " + pages + " pages");
            for (int i = 0; i < 10; i++) {
                state.with(Calls.SAME, 1, i, 11 - i);
            }
            state.with(Calls.WRITE, 1, 0).with(Calls.TEAR, 0, pages).with(Calls.LOAD, 2, 0);
            int known = Math.min(10, 4 * (pages - 1));
            state.answers(known, Calls.KNOWN, 2, 1);
            state.answers(10, Calls.KNOWN, 1, 1);
            for (int i = 0; i <= 10; i++) {
                state.answers(i < known ? i : -1, Calls.ENTRY, 2, 1, i, 1);
                state.answers(i < 10 ? i : -1, Calls.ENTRY, 1, 1, i, 1);
            }
        }
    }

    private static void heardOfEachOther() {
        State state = new State("each has written once");
        for (int b = 0; b < 4; b++) {
            state.filled(b, b + 1);
        }
        for (int b = 1; b < 4; b++) {
            state.carried(b, 0);
        }
        for (int b = 1; b < 4; b++) {
            for (int d = 0; d < 4; d++) {
                state.answers(b == d ? d + 1 : 0, Calls.HEARD, 0, b, d);
                state.answers(0, Calls.HEARD, b, 0, d);
            }
        }
    }

    private static void threeSticks() {
        State state = new State("three sticks, three writers");
        for (int s = 0; s < 3; s++) {
            state.filled(s + 1, 4 * s + 1).with(Calls.WRITE, s + 1, s);
        }
        for (int s = 0; s < 3; s++) {
            state.answers(s + 2, Calls.STICK, s, 0);
            state.answers(s + 1, Calls.STICK, s, 1);
            state.answers(4 * s + 1, Calls.STICK, s, 2);
        }
        state.hasNone(Calls.STICK, 3, 0);
        state.hasNone(Calls.STICK, -1, 0);
    }

    private static State knowsOfFour() {
        State state = new State("clinic 1 knows 2, 3, 4 and 5 entries");
        for (int d = 0; d < 4; d++) {
            state.filled(d, d + 2);
        }
        return state.carried(0, 1).carried(2, 1).carried(3, 1);
    }

    /** What page 0 says is what is heard of its writer, wherever its other pages are blank. */
    private static void pageZero() {
        State state = knowsOfFour().with(Calls.WRITE, 1, 2).with(Calls.TEAR, 2, 1).with(Calls.LOAD, 3, 2);
        state.answers(1, Calls.STICK, 2, 1);
        for (int d = 0; d < 4; d++) {
            state.answers(d + 2, Calls.HEARD, 3, 1, d);
        }
    }

    /** Clinic 0 has heard that 1, 2 and 3 know all four entries of book 0, and of the others of nothing. */
    private static void eachBookFromItsOwnLeast() {
        State state = new State("all know book 0").filled(0, 4).with(Calls.WRITE, 0, 0);
        for (int b = 1; b < 4; b++) {
            state.with(Calls.LOAD, b, 0).with(Calls.WRITE, b, 1).with(Calls.LOAD, 0, 1);
        }
        state.filled(0, 1).filled(2, 3).carried(2, 0).with(Calls.WRITE, 0, 2);
        state.answers(4, Calls.STICK, 2, 2);
        state.answers(4, Calls.LOAD, 1, 2);
        state.with(Calls.LOAD, 1, 2);
        state.answers(5, Calls.KNOWN, 1, 0);
        state.answers(3, Calls.KNOWN, 1, 2);
    }

    private static void entriesAsTheyStand() {
        State state = new State("entries of all kinds").with(Calls.DOSE, 0, 3, 2, 1, 400).with(Calls.STRIKE, 0, 0)
                .with(Calls.RECALL, 2, 5, 6, 7).with(Calls.SAME, 2, 10, 9).carried(0, 2).carried(2, 3);
        int[][][] want = {{{1, 3, 2, 1, 400}, {2, 0, 0, 0, 0}}, {{3, 5, 6, 7, 0}, {4, 10, 9, 0, 0}}};
        for (int d = 0; d < 4; d += 2) {
            for (int i = 0; i < 2; i++) {
                for (int w = 0; w < 5; w++) {
                    state.answers(want[d / 2][i][w], Calls.ENTRY, 3, d, i, w);
                }
            }
        }
    }

    private static void tornAtEachPage() {
        State state = new State("five pages").filled(3, 14).with(Calls.WRITE, 3, 1);
        for (int n = 5; n >= 0; n--) {
            state.answers(n, Calls.TEAR, 1, n);
            state.with(Calls.TEAR, 1, n);
            state.answers(n, Calls.STICK, 1, 0);
            state.answers(Math.min(14, Math.max(0, 4 * (n - 1))), Calls.STICK, 1, 2);
        }
    }

    private static void heardOfTheWriter() {
        State state = knowsOfFour().carried(1, 0);
        for (int d = 0; d < 4; d++) {
            state.answers(d + 2, Calls.HEARD, 0, 1, d);
            state.answers(0, Calls.HEARD, 0, 2, d);
            state.answers(0, Calls.HEARD, 0, 3, d);
            state.answers(0, Calls.HEARD, 3, 1, d);
        }
    }

    private static void entriesInOrder() {
        State state = new State("twelve entries");
        for (int i = 0; i < 12; i++) {
            state.with(Calls.DOSE, 0, i, 0, i % 10, 100 + i);
        }
        state.carried(0, 3);
        for (int i = 0; i < 12; i++) {
            state.answers(i, Calls.ENTRY, 3, 0, i, 1);
            state.answers(100 + i, Calls.ENTRY, 3, 0, i, 4);
            state.answers(100 + i, Calls.PROTECTED_DAY, 3, i, 0);
        }
    }

    private static void rowsOfSame() {
        State state = new State("two rows, in several books").with(Calls.SAME, 0, 4, 9).with(Calls.SAME, 1, 9, 6)
                .with(Calls.SAME, 2, 1, 6).with(Calls.SAME, 0, 3, 2).with(Calls.DOSE, 0, 4, 0, 9, 7);
        state.answers(7, Calls.PROTECTED_DAY, 0, 9, 0);
        state.hasNone(Calls.PROTECTED_DAY, 0, 6, 0);
        state.carried(1, 0);
        state.answers(7, Calls.PROTECTED_DAY, 0, 6, 0);
        state.hasNone(Calls.PROTECTED_DAY, 0, 1, 0);
        state.carried(2, 0);
        for (int p : new int[] {1, 4, 6, 9}) {
            state.answers(7, Calls.PROTECTED_DAY, 0, p, 0);
        }
        for (int p : new int[] {0, 2, 3, 5}) {
            state.hasNone(Calls.PROTECTED_DAY, 0, p, 0);
        }
    }

    private static void leastNumbers() {
        int[] want = {0, 1, 2, 2, 4, 5, 5, 7, 2, 9, 10, 5};
        State state = new State("two groups").with(Calls.SAME, 3, 8, 3).with(Calls.SAME, 3, 2, 8)
                .with(Calls.SAME, 3, 5, 11).with(Calls.SAME, 3, 11, 6);
        for (int p = 0; p < 12; p++) {
            state.answers(want[p], Calls.WHO_IS, 3, p);
            state.answers(p, Calls.WHO_IS, 2, p);
        }
    }

    private static void validDoses() {
        State given = new State("a dose").with(Calls.DOSE, 0, 1, 0, 9, 5);
        given.answers(1, Calls.COUNTING, 0, 1, 0);
        State struck = new State("struck").with(Calls.DOSE, 0, 1, 0, 9, 5).with(Calls.STRIKE, 0, 0);
        struck.answers(0, Calls.COUNTING, 0, 1, 0);
        State recalled = new State("recalled").with(Calls.DOSE, 0, 1, 0, 9, 5).with(Calls.RECALL, 0, 9, 1, 9);
        recalled.answers(0, Calls.COUNTING, 0, 1, 0);
        State both = new State("both").with(Calls.DOSE, 0, 1, 0, 9, 5).with(Calls.RECALL, 0, 9, 1, 9)
                .with(Calls.STRIKE, 0, 0);
        both.answers(0, Calls.COUNTING, 0, 1, 0);
    }

    private static void dosesOfAllThatAreOne() {
        State state = new State("doses under three numbers").with(Calls.SCHEDULE, 1, 4, 0, 0, 0)
                .with(Calls.DOSE, 0, 9, 1, 0, 3).with(Calls.DOSE, 0, 4, 1, 0, 1).with(Calls.DOSE, 0, 7, 1, 0, 2)
                .with(Calls.DOSE, 0, 4, 0, 0, 2).with(Calls.DOSE, 0, 5, 1, 0, 2).with(Calls.DOSE, 0, 7, 1, 5, 9)
                .with(Calls.RECALL, 0, 5, 0, 9).with(Calls.SAME, 0, 9, 4).with(Calls.SAME, 0, 4, 7);
        for (int p : new int[] {4, 7, 9}) {
            state.answers(3, Calls.COUNTING, 0, p, 1);
            state.answers(3, Calls.DUE, 0, p, 1);
            state.answers(1, Calls.COUNTING, 0, p, 0);
        }
        state.answers(1, Calls.COUNTING, 0, 5, 1);
    }

    private static void dosesThatCount() {
        State state = new State("gaps of 10, 20 and 30").with(Calls.SCHEDULE, 0, 4, 10, 20, 30);
        int[] days = {50, 59, 60, 79, 80, 109, 110, 200};
        int[] counting = {1, 1, 2, 2, 3, 3, 4, 4};
        int[] due = {60, 60, 80, 80, 110, 110, -1, -1};
        for (int i = 0; i < days.length; i++) {
            state.with(Calls.DOSE, 0, 6, 0, 1, days[i]);
            state.answers(counting[i], Calls.COUNTING, 0, 6, 0);
            state.answers(due[i], Calls.DUE, 0, 6, 0);
        }
    }

    private static void protectedFromTheLast() {
        State state = new State("three doses").with(Calls.SCHEDULE, 0, 3, 10, 10, 0)
                .with(Calls.DOSE, 0, 6, 0, 1, 50).with(Calls.DOSE, 0, 6, 0, 1, 70);
        state.hasNone(Calls.PROTECTED_DAY, 0, 6, 0);
        state.with(Calls.DOSE, 0, 6, 0, 1, 90);
        state.answers(90, Calls.PROTECTED_DAY, 0, 6, 0);
        state.with(Calls.DOSE, 0, 6, 0, 1, 300);
        state.answers(90, Calls.PROTECTED_DAY, 0, 6, 0);
        state.with(Calls.DOSE, 0, 6, 0, 1, 60);
        state.answers(70, Calls.PROTECTED_DAY, 0, 6, 0);
    }

    private static long value(int... n) {
        return (((((n[0] * 31L + n[1]) * 31 + n[2]) * 1000003 + n[3]) * 1000003 + n[4]) * 1000003 + n[5])
                * 1000003 + n[6];
    }

    private static void sumOfAllKnown() {
        State state = new State("three entries in two books").with(Calls.DOSE, 1, 5, 1, 3, 77)
                .with(Calls.DOSE, 3, 11, 2, 9, 40000).with(Calls.RECALL, 3, 4, 10, 20);
        long one = value(1, 1, 0, 5, 1, 3, 77);
        long three = value(1, 3, 0, 11, 2, 9, 40000) + value(3, 3, 1, 4, 10, 20, 0);
        state.answers(one, Calls.SUM, 1);
        state.answers(three, Calls.SUM, 3);
        state.answers(0, Calls.SUM, 0);
        state.carried(3, 1);
        state.answers(one + three, Calls.SUM, 1);
    }

    private static void sumsOfTheKinds() {
        State state = new State("one of each kind").with(Calls.DOSE, 2, 1, 2, 3, 4);
        long sum = value(1, 2, 0, 1, 2, 3, 4);
        state.answers(sum, Calls.SUM, 2);
        state.with(Calls.STRIKE, 2, 0);
        sum += value(2, 2, 1, 0, 0, 0, 0);
        state.answers(sum, Calls.SUM, 2);
        state.with(Calls.RECALL, 2, 5, 6, 7);
        sum += value(3, 2, 2, 5, 6, 7, 0);
        state.answers(sum, Calls.SUM, 2);
        state.with(Calls.SAME, 2, 8, 9);
        sum += value(4, 2, 3, 8, 9, 0, 0);
        state.answers(sum, Calls.SUM, 2);
    }
}
