/** The boundary cases of promises 7 to 12, each under the words of the document that name it. */
final class SticksBoundary {
    private static final int MIN = Integer.MIN_VALUE;
    private static final int MAX = Integer.MAX_VALUE;
    private static final int[] NO_CLINICS = {MIN, -1, 4, MAX};
    private static final int[] NO_STICKS = {MIN, -1, 3, MAX};

    private SticksBoundary() {
    }

    static void run() {
        writes();
        tears();
        loads();
        sticks();
        knownAndHeard();
    }

    private static void writes() {
        Sentences.test(7, "IllegalArgumentException if there is no such clinic or stick",
                SticksBoundary::writeOfNothing);
        Sentences.test(7, "how many pages it has", SticksBoundary::writeOfNoEntry);
        Sentences.test(Sentences.TERMS, "four on a page", SticksBoundary::fourOnAPage);
        Sentences.test(Sentences.TERMS, "one book behind the other", SticksBoundary::pagesThatBooksShare);
        Sentences.test(Sentences.TERMS, "c writes anew", SticksBoundary::writtenAnew);
        Sentences.test(Sentences.TERMS, "from its entry number LEAST on", SticksBoundary::fromLeastOn);
        Sentences.test(Sentences.TERMS, "(the least HEARD(c, b, d) of all clinics b but c and d)",
                SticksBoundary::leastOfTheOthers);
        Sentences.test(Sentences.TERMS, "up to the last that c knows", SticksBoundary::heardBeyondTheKnown);
    }

    private static void tears() {
        Sentences.test(8, "IllegalArgumentException if there is no such stick",
                SticksBoundary::tearOfNoStick);
        Sentences.test(8, "or n is below 0", SticksBoundary::tearBelowZero);
        Sentences.test(8, "how many pages are whole then", SticksBoundary::tearAtEachPage);
        Sentences.test(Sentences.TERMS, "its first n pages stay WHOLE, the others are blank",
                SticksBoundary::tornTwice);
        Sentences.test(Sentences.TERMS, "blank at first", SticksBoundary::tearOfABlankStick);
    }

    private static void loads() {
        Sentences.test(9, "IllegalArgumentException if there is no such clinic or stick",
                SticksBoundary::loadOfNothing);
        Sentences.test(9, "how many entries are new", SticksBoundary::loadOfBlankTornAndWhole);
        Sentences.test(Sentences.TERMS, "if that is more", SticksBoundary::heardOfLessEqualAndMore);
        Sentences.test(Sentences.TERMS, "(nothing, if c is the writer)", SticksBoundary::loadByTheWriter);
        Sentences.test(Sentences.TERMS, "if it is entry number KNOWN(c, d) of its book d, c knows it, too",
                SticksBoundary::loadOfNextEntriesAlone);
        Sentences.test(Sentences.TERMS, "sticks that are carried about, and can be torn",
                SticksBoundary::loadOfAllBooks);
    }

    private static void sticks() {
        Sentences.test(10, "NONE if there is none such", SticksBoundary::stickThatIsNone);
        Sentences.test(10, "or no such w", SticksBoundary::stickOfNoW);
        Sentences.test(10, "(1 also if page 0 is not whole)", SticksBoundary::writerOfATornStick);
        Sentences.test(10, "w = 0: its whole pages, 1: its writer, 2: entries on its whole pages",
                SticksBoundary::stickAtItsEnds);
    }

    private static void knownAndHeard() {
        Sentences.test(11, "NONE if there are no such clinics", SticksBoundary::knownOfNoClinics);
        Sentences.test(11, "KNOWN(c, d)", SticksBoundary::knownFromNoneToAll);
        Sentences.test(12, "NONE if there are no such clinics", SticksBoundary::heardOfNoClinics);
        Sentences.test(12, "or c is b", SticksBoundary::heardOfItself);
        Sentences.test(Sentences.TERMS, "(0 at first)", SticksBoundary::heardNothingAtFirst);
        Sentences.test(12, "HEARD(c, b, d)", SticksBoundary::heardOfFullBooks);
    }

    private static State nine() {
        return new State("nine entries on stick 0").filled(0, 9).with(Calls.WRITE, 0, 0);
    }

    private static void writeOfNothing() {
        for (State state : States.all()) {
            for (int clinic : NO_CLINICS) {
                state.refusesArgument(Calls.WRITE, clinic, 0);
            }
            for (int stick : NO_STICKS) {
                state.refusesArgument(Calls.WRITE, 0, stick);
                state.refusesArgument(Calls.WRITE, 4, stick);
            }
        }
        State blank = States.blank();
        blank.answers(1, Calls.WRITE, 0, 0);
        blank.answers(1, Calls.WRITE, 3, 2);
    }

    private static void writeOfNoEntry() {
        for (int c = 0; c < 4; c++) {
            for (int s = 0; s < 3; s++) {
                State state = new State("page 0 alone").with(Calls.WRITE, c, s);
                state.answers(1, Calls.STICK, s, 0);
                state.answers(c, Calls.STICK, s, 1);
                state.answers(0, Calls.STICK, s, 2);
                state.hasNone(Calls.STICK, (s + 1) % 3, 1);
                state.answers(0, Calls.LOAD, (c + 1) % 4, s);
            }
        }
    }

    private static void fourOnAPage() {
        for (int n = 0; n <= 24; n++) {
            ClinicBooks x = new ClinicBooks();
            Check.fill(x, 3, n);
            int pages = 1;
            for (int left = n; left > 0; left -= 4) {
                pages++;
            }
            Check.equal("pages of " + n, pages, x.write(3, 2));
            Check.equal("whole pages of " + n, pages, x.stick(2, 0));
            Check.equal("entries of " + n, n, x.stick(2, 2));
            Check.equal("all of " + n + " are new", n, x.load(0, 2));
        }
        ClinicBooks full = States.full().books();
        Check.equal("all four books", 25, full.stick(0, 0));
        Check.equal("all their entries", 96, full.stick(0, 2));
    }

    private static void pagesThatBooksShare() {
        // Book 0 has one entry, book 1 two, book 2 three, book 3 four: ten entries, three pages.
        State state = new State("ten entries of four books");
        for (int c = 0; c < 4; c++) {
            state.filled(c, c + 1);
        }
        state.carried(0, 3).carried(1, 3).carried(2, 3).with(Calls.WRITE, 3, 1);
        state.answers(4, Calls.STICK, 1, 0);
        state.answers(10, Calls.STICK, 1, 2);
        int[][] knownByPages = {{0, 0, 0, 0}, {0, 0, 0, 0}, {1, 2, 1, 0}, {1, 2, 3, 2}, {1, 2, 3, 4}};
        for (int n = 0; n <= 4; n++) {
            ClinicBooks x = state.books();
            x.tear(1, n);
            x.load(0, 1);
            for (int d = 1; d < 4; d++) {
                Check.equal(n + " pages, book " + d, knownByPages[n][d], x.known(0, d));
            }
        }
    }

    private static void writtenAnew() {
        State more = nine().with(Calls.WRITE, 1, 0);
        more.answers(1, Calls.STICK, 0, 0);
        more.answers(1, Calls.STICK, 0, 1);
        more.answers(0, Calls.STICK, 0, 2);
        more.answers(0, Calls.LOAD, 2, 0);
        more.answers(1, Calls.TEAR, 0, MAX);
        for (int n = 0; n < 4; n++) {
            State torn = nine().with(Calls.TEAR, 0, n).with(Calls.WRITE, 0, 0);
            torn.answers(4, Calls.STICK, 0, 0);
            torn.answers(0, Calls.STICK, 0, 1);
            torn.answers(9, Calls.STICK, 0, 2);
            torn.answers(9, Calls.LOAD, 3, 0);
        }
    }

    /** All others are heard to know so many entries of book 0. */
    private static State allHeardOf(int heard, int written) {
        State state = new State("heard of " + heard + " of " + written).filled(0, heard).with(Calls.WRITE, 0, 0);
        for (int b = 1; b < 4; b++) {
            state.with(Calls.LOAD, b, 0).with(Calls.WRITE, b, 1).with(Calls.LOAD, 0, 1);
        }
        return state.filled(0, written - heard);
    }

    private static void fromLeastOn() {
        int[][] cases = {{0, 24}, {1, 1}, {1, 2}, {4, 9}, {20, 24}, {23, 24}, {24, 24}};
        for (int[] each : cases) {
            ClinicBooks x = allHeardOf(each[0], each[1]).books();
            int left = each[1] - each[0];
            Check.equal("pages from " + each[0] + " of " + each[1], 1 + (left + 3) / 4, x.write(0, 2));
            Check.equal("entries from " + each[0] + " of " + each[1], left, x.stick(2, 2));
            Check.equal("they are the next", left, x.load(1, 2));
            Check.equal("all known", each[1], x.known(1, 0));
        }
    }

    private static void leastOfTheOthers() {
        // Of book 0, clinic 1 asks 2 and 3 alone: neither itself nor the book's owner.
        State state = new State("clinic 1 has heard of 2 and 3").filled(0, 5).with(Calls.WRITE, 0, 0)
                .with(Calls.LOAD, 2, 0).with(Calls.LOAD, 3, 0).with(Calls.WRITE, 2, 1).with(Calls.LOAD, 1, 1);
        state.answers(5, Calls.KNOWN, 1, 0);
        state.answers(0, Calls.HEARD, 1, 0, 0);
        ClinicBooks one = state.books();
        one.write(1, 2);
        Check.equal("3 is not heard of", 5, one.stick(2, 2));
        ClinicBooks both = state.with(Calls.WRITE, 3, 1).with(Calls.LOAD, 1, 1).books();
        both.write(1, 2);
        Check.equal("2 and 3 are heard of", 0, both.stick(2, 2));
        for (int writer = 0; writer < 4; writer++) {
            for (int missing = 0; missing < 4; missing++) {
                leastOfItsOwnBook(writer, missing);
            }
        }
    }

    /** Of its own book a writer asks all three others, so that one of whom it has not heard is enough. */
    private static void leastOfItsOwnBook(int writer, int missing) {
        State state = new State("not heard of " + missing).filled(writer, 6).with(Calls.WRITE, writer, 0);
        for (int b = 0; b < 4; b++) {
            if (b != writer && b != missing) {
                state.with(Calls.LOAD, b, 0).with(Calls.WRITE, b, 1).with(Calls.LOAD, writer, 1);
            }
        }
        ClinicBooks x = state.books();
        x.write(writer, 2);
        Check.equal("written by " + writer + ", not heard of " + missing, writer == missing ? 0 : 6,
                x.stick(2, 2));
    }

    private static void heardBeyondTheKnown() {
        // Clinic 1 hears by page 0 alone that 2 and 3 know 24 entries of book 0; it knows none, or four.
        for (int knows = 0; knows <= 4; knows += 4) {
            State state = new State("less known than heard").filled(0, 24).with(Calls.WRITE, 0, 0)
                    .with(Calls.LOAD, 2, 0).with(Calls.LOAD, 3, 0)
                    .with(Calls.TEAR, 0, 1 + knows / 4).with(Calls.LOAD, 1, 0);
            for (int b = 2; b < 4; b++) {
                state.with(Calls.WRITE, b, 1).with(Calls.TEAR, 1, 1).with(Calls.LOAD, 1, 1);
                state.answers(24, Calls.HEARD, 1, b, 0);
            }
            state.answers(knows, Calls.KNOWN, 1, 0);
            state.answers(1, Calls.WRITE, 1, 2);
            ClinicBooks x = state.books();
            x.same(1, 0, 0);
            Check.equal("its own entry alone", 2, x.write(1, 2));
            Check.equal("one entry", 1, x.stick(2, 2));
        }
    }

    private static void tearOfNoStick() {
        for (State state : States.all()) {
            for (int stick : NO_STICKS) {
                state.refusesArgument(Calls.TEAR, stick, 0);
                state.refusesArgument(Calls.TEAR, stick, MAX);
                state.refusesArgument(Calls.TEAR, stick, -1);
            }
        }
        States.full().answers(0, Calls.TEAR, 0, 0);
        States.full().answers(0, Calls.TEAR, 2, 0);
    }

    private static void tearBelowZero() {
        for (State state : States.all()) {
            for (int stick = 0; stick < 3; stick++) {
                state.refusesArgument(Calls.TEAR, stick, -1);
                state.refusesArgument(Calls.TEAR, stick, MIN);
            }
        }
    }

    private static void tearAtEachPage() {
        int[] pages = {0, 1, 2, 3, 4, 4, 4};
        int[] entries = {0, 0, 4, 8, 9, 9, 9};
        int[] at = {0, 1, 2, 3, 4, 5, MAX};
        for (int k = 0; k < at.length; k++) {
            State state = nine();
            state.answers(pages[k], Calls.TEAR, 0, at[k]);
            state.with(Calls.TEAR, 0, at[k]);
            state.answers(pages[k], Calls.STICK, 0, 0);
            state.answers(at[k] == 0 ? -1 : 0, Calls.STICK, 0, 1);
            state.answers(entries[k], Calls.STICK, 0, 2);
            state.answers(entries[k], Calls.LOAD, 1, 0);
        }
        for (int n : new int[] {24, 25, 26, MAX}) {
            States.full().answers(Math.min(n, 25), Calls.TEAR, 0, n);
        }
    }

    private static void tornTwice() {
        for (int first = 0; first <= 5; first++) {
            for (int second = 0; second <= 5; second++) {
                int whole = Math.min(4, Math.min(first, second));
                State state = nine().with(Calls.TEAR, 0, first);
                state.answers(whole, Calls.TEAR, 0, second);
                state.with(Calls.TEAR, 0, second);
                state.answers(whole, Calls.STICK, 0, 0);
                state.answers(Math.min(9, Math.max(0, whole - 1) * 4), Calls.LOAD, 2, 0);
            }
        }
        State other = nine().with(Calls.WRITE, 0, 1).with(Calls.TEAR, 1, 0);
        other.answers(4, Calls.STICK, 0, 0);
        other.answers(0, Calls.STICK, 1, 0);
        other.answers(0, Calls.STICK, 2, 0);
    }

    private static void tearOfABlankStick() {
        for (int n : new int[] {0, 1, 24, MAX}) {
            State state = new State("a blank stick is torn at " + n).with(Calls.TEAR, 1, n);
            state.answers(0, Calls.STICK, 1, 0);
            state.hasNone(Calls.STICK, 1, 1);
            state.answers(0, Calls.STICK, 1, 2);
            state.answers(0, Calls.LOAD, 0, 1);
            state.answers(1, Calls.WRITE, 2, 1);
        }
    }

    private static void loadOfNothing() {
        for (State state : States.all()) {
            for (int clinic : NO_CLINICS) {
                state.refusesArgument(Calls.LOAD, clinic, 0);
            }
            for (int stick : NO_STICKS) {
                state.refusesArgument(Calls.LOAD, 0, stick);
                state.refusesArgument(Calls.LOAD, 4, stick);
            }
        }
        nine().answers(9, Calls.LOAD, 3, 0);
        State last = new State("the last clinic, the last stick").filled(3, 1).with(Calls.WRITE, 3, 2);
        last.answers(1, Calls.LOAD, 0, 2);
        last.answers(0, Calls.LOAD, 3, 2);
    }

    private static void loadOfBlankTornAndWhole() {
        int[] fresh = {0, 0, 4, 8, 9};
        for (int n = 0; n <= 4; n++) {
            State state = nine().with(Calls.TEAR, 0, n);
            state.answers(fresh[n], Calls.LOAD, 1, 0);
            state.with(Calls.LOAD, 1, 0);
            state.answers(fresh[n], Calls.KNOWN, 1, 0);
            state.answers(n == 0 ? 0 : 9, Calls.HEARD, 1, 0, 0);
            state.answers(0, Calls.LOAD, 1, 0);
            state.answers(n, Calls.STICK, 0, 0);
        }
        State blank = nine();
        blank.answers(0, Calls.LOAD, 1, 1);
        ClinicBooks x = blank.books();
        String before = Check.seen(x);
        x.load(1, 1);
        Check.equal("a blank stick leaves to be seen", before, Check.seen(x));
        Check.equal("a blank stick tells nothing", 0, x.heard(1, 0, 0));
    }

    private static void heardOfLessEqualAndMore() {
        ClinicBooks x = new ClinicBooks();
        Check.fill(x, 0, 2);
        x.write(0, 0);
        x.load(1, 0);
        Check.equal("more than at first", 2, x.heard(1, 0, 0));
        x.load(1, 0);
        Check.equal("equal", 2, x.heard(1, 0, 0));
        Check.fill(x, 0, 1);
        x.write(0, 1);
        x.load(1, 1);
        Check.equal("one more", 3, x.heard(1, 0, 0));
        x.load(1, 0);
        Check.equal("one less", 3, x.heard(1, 0, 0));
        x.write(3, 2);
        x.load(1, 2);
        Check.equal("none, of another writer", 0, x.heard(1, 3, 0));
        Check.equal("of this one as before", 3, x.heard(1, 0, 0));
        lessOfOneBookMoreOfAnother();
    }

    private static void lessOfOneBookMoreOfAnother() {
        ClinicBooks x = new ClinicBooks();
        Check.fill(x, 2, 3);
        x.write(2, 0);
        x.write(0, 1);
        x.load(0, 0);
        x.write(0, 2);
        x.load(3, 2);
        Check.equal("book 2", 3, x.heard(3, 0, 2));
        Check.equal("book 0", 0, x.heard(3, 0, 0));
        Check.fill(x, 0, 1);
        x.write(0, 2);
        x.load(3, 1);
        Check.equal("an older page says less of book 2", 3, x.heard(3, 0, 2));
        x.load(3, 2);
        Check.equal("a newer page says as much of book 2", 3, x.heard(3, 0, 2));
        Check.equal("and more of book 0", 1, x.heard(3, 0, 0));
    }

    private static void loadByTheWriter() {
        for (int c = 0; c < 4; c++) {
            State state = new State("clinic " + c + " wrote").filled(c, 24).with(Calls.WRITE, c, 0);
            ClinicBooks x = state.books();
            Check.equal("the writer loads", 0, x.load(c, 0));
            for (int d = 0; d < 4; d++) {
                for (int b = 0; b < 4; b++) {
                    Check.equal("the writer has heard", b == c ? -1 : 0, x.heard(c, b, d));
                }
            }
            Check.equal("the writer writes all again", 7, x.write(c, 1));
        }
    }

    /** No stick begins beyond what its reader knows: LEAST is no more than that clinic was heard to know. */
    private static void loadOfNextEntriesAlone() {
        State next = allHeardOf(4, 9).with(Calls.WRITE, 0, 2);
        next.answers(4, Calls.STICK, 0, 2);
        next.answers(5, Calls.STICK, 2, 2);
        for (int b = 1; b < 4; b++) {
            next.answers(4, Calls.KNOWN, b, 0);
            next.answers(0, Calls.LOAD, b, 0);
            next.answers(5, Calls.LOAD, b, 2);
        }
        next.with(Calls.LOAD, 1, 2);
        next.answers(9, Calls.KNOWN, 1, 0);
        next.answers(0, Calls.LOAD, 1, 2);
        next.answers(0, Calls.LOAD, 1, 0);
        for (int n = 1; n <= 4; n++) {
            int first = Math.min(9, (n - 1) * 4);
            State parts = nine().with(Calls.WRITE, 0, 1).with(Calls.TEAR, 1, n).with(Calls.LOAD, 1, 1);
            parts.answers(first, Calls.KNOWN, 1, 0);
            parts.answers(9 - first, Calls.LOAD, 1, 0);
            parts.with(Calls.LOAD, 1, 0);
            parts.answers(9, Calls.KNOWN, 1, 0);
            parts.answers(0, Calls.LOAD, 1, 1);
        }
    }

    private static void loadOfAllBooks() {
        State full = States.full();
        for (int c = 0; c < 4; c++) {
            full.answers(c == 2 ? 0 : 72, Calls.LOAD, c, 0);
        }
        State torn = States.full().with(Calls.TEAR, 0, 24).with(Calls.LOAD, 0, 0);
        torn.answers(24, Calls.KNOWN, 0, 2);
        torn.answers(20, Calls.KNOWN, 0, 3);
        torn.answers(24, Calls.HEARD, 0, 2, 3);
    }

    private static void stickThatIsNone() {
        for (State state : States.all()) {
            for (int stick : NO_STICKS) {
                for (int w = 0; w < 3; w++) {
                    state.hasNone(Calls.STICK, stick, w);
                }
            }
        }
    }

    private static void stickOfNoW() {
        for (State state : States.all()) {
            for (int w : new int[] {MIN, -1, 3, MAX}) {
                for (int stick = 0; stick < 3; stick++) {
                    state.hasNone(Calls.STICK, stick, w);
                }
                state.hasNone(Calls.STICK, 3, w);
            }
        }
    }

    private static void writerOfATornStick() {
        for (int c = 0; c < 4; c++) {
            State whole = new State("written by " + c).filled(c, 1).with(Calls.WRITE, c, 2);
            whole.answers(c, Calls.STICK, 2, 1);
            State pageZero = new State("page 0 alone").filled(c, 1).with(Calls.WRITE, c, 2).with(Calls.TEAR, 2, 1);
            pageZero.answers(c, Calls.STICK, 2, 1);
            State none = new State("no page").filled(c, 1).with(Calls.WRITE, c, 2).with(Calls.TEAR, 2, 0);
            none.hasNone(Calls.STICK, 2, 1);
            none.answers(0, Calls.STICK, 2, 0);
            none.answers(0, Calls.STICK, 2, 2);
            none.hasNone(Calls.STICK, 1, 1);
        }
    }

    private static void stickAtItsEnds() {
        State full = States.full();
        full.answers(25, Calls.STICK, 0, 0);
        full.answers(2, Calls.STICK, 0, 1);
        full.answers(96, Calls.STICK, 0, 2);
        State last = States.full().with(Calls.TEAR, 0, 24);
        last.answers(24, Calls.STICK, 0, 0);
        last.answers(92, Calls.STICK, 0, 2);
        State one = new State("one entry").filled(0, 1).with(Calls.WRITE, 0, 0);
        one.answers(2, Calls.STICK, 0, 0);
        one.answers(1, Calls.STICK, 0, 2);
        State later = new State("an entry behind the writing").with(Calls.WRITE, 0, 0).filled(0, 1);
        later.answers(1, Calls.STICK, 0, 0);
        later.answers(0, Calls.STICK, 0, 2);
    }

    private static void knownOfNoClinics() {
        for (State state : States.all()) {
            for (int clinic : NO_CLINICS) {
                state.hasNone(Calls.KNOWN, clinic, 0);
                state.hasNone(Calls.KNOWN, 0, clinic);
                state.hasNone(Calls.KNOWN, clinic, clinic);
            }
        }
    }

    private static void knownFromNoneToAll() {
        State blank = States.blank();
        State full = States.full();
        for (int c = 0; c < 4; c++) {
            for (int d = 0; d < 4; d++) {
                blank.answers(0, Calls.KNOWN, c, d);
                full.answers(c == 2 || c == d ? 24 : 0, Calls.KNOWN, c, d);
            }
        }
    }

    private static void heardOfNoClinics() {
        for (State state : States.all()) {
            for (int clinic : NO_CLINICS) {
                state.hasNone(Calls.HEARD, clinic, 1, 2);
                state.hasNone(Calls.HEARD, 0, clinic, 2);
                state.hasNone(Calls.HEARD, 0, 1, clinic);
                state.hasNone(Calls.HEARD, clinic, clinic, clinic);
            }
        }
    }

    private static void heardOfItself() {
        for (State state : States.all()) {
            for (int c = 0; c < 4; c++) {
                for (int d = 0; d < 4; d++) {
                    state.hasNone(Calls.HEARD, c, c, d);
                }
            }
        }
    }

    private static void heardNothingAtFirst() {
        State blank = States.blank();
        for (int c = 0; c < 4; c++) {
            for (int b = 0; b < 4; b++) {
                for (int d = 0; d < 4; d++) {
                    blank.answers(b == c ? -1 : 0, Calls.HEARD, c, b, d);
                }
            }
        }
    }

    private static void heardOfFullBooks() {
        State state = States.full().with(Calls.LOAD, 0, 0);
        for (int d = 0; d < 4; d++) {
            state.answers(24, Calls.HEARD, 0, 2, d);
            state.answers(0, Calls.HEARD, 0, 1, d);
            state.answers(0, Calls.HEARD, 0, 3, d);
        }
    }
}
