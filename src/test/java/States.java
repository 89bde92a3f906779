/** States that boundary tests ask: no entry yet, entries of all kinds, and books that are full. */
final class States {
    private States() {
    }

    static State[] all() {
        return new State[] {blank(), scheduled(), mixed(), full()};
    }

    static State blank() {
        return new State("a new object");
    }

    /** No book has an entry, yet sticks are written, and schedules are not those of a new object. */
    static State scheduled() {
        return new State("schedules alone")
                .with(Calls.SCHEDULE, 0, 2, 10, 0, 0)
                .with(Calls.SCHEDULE, 1, 4, 0, 1000, 7)
                .with(Calls.SCHEDULE, 2, 3, 1, 2, 0)
                .with(Calls.WRITE, 0, 0)
                .with(Calls.LOAD, 1, 0)
                .with(Calls.WRITE, 3, 2);
    }

    /** Entries of all kinds; stick 0 is whole, stick 1 torn, stick 2 blank. */
    static State mixed() {
        return new State("entries of all kinds")
                .with(Calls.SCHEDULE, 0, 2, 10, 0, 0)
                .with(Calls.SCHEDULE, 1, 3, 1000, 0, 0)
                .with(Calls.DOSE, 0, 0, 0, 0, 0)
                .with(Calls.DOSE, 0, 11, 0, 9, 40000)
                .with(Calls.DOSE, 0, 0, 0, 0, 10)
                .with(Calls.STRIKE, 0, 1)
                .with(Calls.DOSE, 1, 11, 2, 9, 40000)
                .with(Calls.RECALL, 1, 9, 0, 39999)
                .with(Calls.DOSE, 1, 3, 1, 0, 5)
                .with(Calls.SAME, 1, 11, 3)
                .with(Calls.DOSE, 1, 3, 2, 1, 5)
                .with(Calls.SAME, 2, 0, 0)
                .with(Calls.DOSE, 2, 0, 2, 9, 7)
                .carried(0, 1)
                .carried(2, 0)
                .with(Calls.WRITE, 1, 1)
                .with(Calls.TEAR, 1, 2)
                .with(Calls.LOAD, 3, 1)
                .with(Calls.WRITE, 3, 0);
    }

    /** Each book has 24 entries, the first a dose; clinic 2 knows all, and wrote all on stick 0. */
    static State full() {
        State state = new State("full books");
        for (int c = 0; c < 4; c++) {
            state.with(Calls.DOSE, c, 3 * c, c % 3, c, 100 * c);
            state.with(Calls.DOSE, c, 11, 0, 9, 40000);
            state.with(Calls.RECALL, c, 8, c, c);
            state.filled(c, 21);
        }
        return state.carried(0, 2).carried(1, 2).carried(3, 2).with(Calls.WRITE, 2, 0);
    }
}
