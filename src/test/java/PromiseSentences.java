/** What the promises say of ordinary use, each under its words; the Boundary classes have their edges. */
final class PromiseSentences {
    private PromiseSentences() {
    }

    static void run() {
        books();
        sticks();
        judgements();
    }

    private static void books() {
        Sentences.test(2, "A vaccine's schedule: doses, and gap 1, 2, 3", PromiseSentences::schedules);
        Sentences.test(4, "A STRIKE: its number.", PromiseSentences::strikes);
        Sentences.test(5, "A RECALL: its number.", PromiseSentences::recalls);
        Sentences.test(13, "Of entry i of book d, if clinic c knows it: w = 0: its kind, 1 .. 4: its numbers",
                PromiseSentences::entriesOfEachBook);
    }

    private static void sticks() {
        Sentences.test(7, "A stick is WRITTEN: how many pages it has.", PromiseSentences::written);
        Sentences.test(8, "A stick is TORN: how many pages are whole then.", PromiseSentences::torn);
        Sentences.test(9, "A stick is LOADED: how many entries are new.", PromiseSentences::loaded);
        Sentences.test(10, "Of a stick: w = 0: its whole pages, 1: its writer, 2: entries on its whole pages.",
                PromiseSentences::seen);
    }

    private static void judgements() {
        Sentences.test(14, "How many doses of a person and a vaccine COUNT, for a clinic.",
                PromiseSentences::countingForAClinic);
        Sentences.test(15, "From which day the person is PROTECTED", PromiseSentences::protectedForAClinic);
        Sentences.test(17, "that have a dose (valid or not) of any vaccine are protected by a day, for a vaccine.",
                PromiseSentences::coverageForAVaccine);
        Sentences.test(18, "The i-th person (0 is the least) to whom a dose of a lot was given",
                PromiseSentences::personsOfALot);
    }

    /** The last schedule that was given stands, each vaccine's for itself. */
    private static void schedules() {
        State state = new State("scheduled anew").with(Calls.SCHEDULE, 1, 4, 5, 6, 7)
                .with(Calls.SCHEDULE, 2, 3, 30, 40, 0).with(Calls.SCHEDULE, 1, 2, 9, 0, 0);
        for (int v = 0; v < 3; v++) {
            state.with(Calls.DOSE, 0, 3, v, 0, 100);
        }
        int[] due = {-1, 109, 130};
        for (int v = 0; v < 3; v++) {
            state.answers(due[v], Calls.DUE, 0, 3, v);
        }
        state.with(Calls.DOSE, 0, 3, 1, 0, 109).with(Calls.DOSE, 0, 3, 2, 0, 130);
        state.answers(109, Calls.PROTECTED_DAY, 0, 3, 1);
        state.answers(170, Calls.DUE, 0, 3, 2);
    }

    private static void strikes() {
        ClinicBooks x = new ClinicBooks();
        x.same(1, 0, 0);
        x.dose(1, 4, 0, 2, 10);
        x.dose(1, 4, 0, 2, 20);
        Check.equal("its number", 3, x.strike(1, 1));
        Check.equal("the other dose is left", 20, x.protectedDay(1, 4, 0));
        Check.equal("the next number", 4, x.strike(1, 2));
        Check.equal("no dose is left", -1, x.protectedDay(1, 4, 0));
    }

    private static void recalls() {
        ClinicBooks x = new ClinicBooks();
        x.dose(1, 4, 0, 2, 10);
        x.dose(1, 4, 0, 2, 20);
        Check.equal("its number", 2, x.recall(1, 2, 5, 15));
        Check.equal("the other dose is left", 20, x.protectedDay(1, 4, 0));
        Check.equal("the next number", 3, x.recall(1, 2, 5, 15));
        Check.equal("the same again changes no judgement", 20, x.protectedDay(1, 4, 0));
        Check.equal("of the other days", 4, x.recall(1, 2, 16, 40000));
        Check.equal("no dose is left", -1, x.protectedDay(1, 4, 0));
    }

    private static void entriesOfEachBook() {
        State state = new State("an entry in each book").with(Calls.DOSE, 0, 11, 2, 9, 40000)
                .with(Calls.RECALL, 1, 9, 300, 400).with(Calls.SAME, 2, 7, 5).with(Calls.DOSE, 3, 1, 1, 1, 1)
                .with(Calls.STRIKE, 3, 0).carried(1, 0).carried(2, 0).carried(3, 0);
        int[][] want = {{1, 11, 2, 9, 40000}, {3, 9, 300, 400, 0}, {4, 7, 5, 0, 0}, {1, 1, 1, 1, 1}};
        for (int d = 0; d < 4; d++) {
            for (int w = 0; w < 5; w++) {
                state.answers(want[d][w], Calls.ENTRY, 0, d, 0, w);
                state.answers(d == 2 ? want[d][w] : -1, Calls.ENTRY, 2, d, 0, w);
            }
        }
        state.answers(2, Calls.ENTRY, 0, 3, 1, 0);
        state.answers(0, Calls.ENTRY, 0, 3, 1, 1);
    }

    private static void written() {
        State state = new State("six entries").filled(0, 6);
        state.answers(3, Calls.WRITE, 0, 1);
        state.answers(1, Calls.WRITE, 1, 1);
        state.filled(0, 3);
        state.answers(4, Calls.WRITE, 0, 1);
    }

    private static void torn() {
        State state = new State("six entries on stick 1").filled(0, 6).with(Calls.WRITE, 0, 1);
        state.answers(2, Calls.TEAR, 1, 2);
        state.answers(3, Calls.TEAR, 1, 7);
        state.with(Calls.TEAR, 1, 2);
        state.answers(4, Calls.LOAD, 3, 1);
    }

    private static void loaded() {
        State state = new State("six entries on stick 1").filled(0, 6).with(Calls.WRITE, 0, 1);
        state.answers(6, Calls.LOAD, 2, 1);
        state.with(Calls.LOAD, 2, 1).filled(0, 2).with(Calls.WRITE, 0, 1);
        state.answers(2, Calls.LOAD, 2, 1);
        state.answers(8, Calls.LOAD, 3, 1);
        state.answers(0, Calls.LOAD, 0, 1);
    }

    private static void seen() {
        State state = new State("six entries on stick 1").filled(3, 6).with(Calls.WRITE, 3, 1);
        state.answers(3, Calls.STICK, 1, 0);
        state.answers(3, Calls.STICK, 1, 1);
        state.answers(6, Calls.STICK, 1, 2);
        state.with(Calls.TEAR, 1, 2);
        state.answers(2, Calls.STICK, 1, 0);
        state.answers(3, Calls.STICK, 1, 1);
        state.answers(4, Calls.STICK, 1, 2);
    }

    /** Person 5 has a dose in book 0 and one in book 1, which is carried to clinic 0 alone. */
    private static State twoDoses() {
        return new State("two doses in two books").with(Calls.SCHEDULE, 1, 2, 10, 0, 0)
                .with(Calls.DOSE, 0, 5, 1, 3, 100).with(Calls.DOSE, 1, 5, 1, 3, 115).carried(1, 0);
    }

    private static void countingForAClinic() {
        State state = twoDoses();
        int[] want = {2, 1, 0, 0};
        for (int c = 0; c < 4; c++) {
            state.answers(want[c], Calls.COUNTING, c, 5, 1);
            state.answers(0, Calls.COUNTING, c, 5, 0);
            state.answers(0, Calls.COUNTING, c, 4, 1);
        }
    }

    private static void protectedForAClinic() {
        State state = twoDoses();
        state.answers(115, Calls.PROTECTED_DAY, 0, 5, 1);
        for (int c = 1; c < 4; c++) {
            state.hasNone(Calls.PROTECTED_DAY, c, 5, 1);
        }
    }

    private static void coverageForAVaccine() {
        State state = twoDoses().with(Calls.DOSE, 0, 7, 0, 3, 50).with(Calls.DOSE, 0, 9, 0, 4, 60)
                .with(Calls.DOSE, 0, 2, 1, 4, 70).with(Calls.RECALL, 0, 4, 60, 65);
        state.answers(1, Calls.COVERAGE, 0, 0, 200);
        state.answers(0, Calls.COVERAGE, 0, 0, 49);
        state.answers(1, Calls.COVERAGE, 0, 1, 115);
        state.answers(0, Calls.COVERAGE, 0, 1, 114);
        state.answers(0, Calls.COVERAGE, 0, 2, 200);
        state.answers(0, Calls.COVERAGE, 1, 1, 200);
    }

    private static void personsOfALot() {
        State state = new State("persons of two lots").with(Calls.DOSE, 0, 8, 0, 3, 1).with(Calls.DOSE, 0, 2, 1, 3, 2)
                .with(Calls.DOSE, 0, 8, 2, 3, 3).with(Calls.DOSE, 0, 1, 0, 4, 4).with(Calls.DOSE, 1, 5, 0, 3, 5)
                .carried(1, 0);
        int[] want = {2, 5, 8, -1};
        for (int i = 0; i < want.length; i++) {
            state.answers(want[i], Calls.LOT_LIST, 0, 3, i);
        }
        state.answers(1, Calls.LOT_LIST, 0, 4, 0);
        state.answers(5, Calls.LOT_LIST, 1, 3, 0);
    }
}
