/**
 * Vaccination books of four clinics without a line between them: each appends to a book of its
 * own, sticks carry parts of books to others, and every clinic judges by what it knows.
 */
public final class ClinicBooks {
    public static final int NONE = -1;

    private static final int CLINICS = 4;
    private static final int PERSONS = 12;
    private static final int VACCINES = 3;
    private static final int LOTS = 10;
    private static final int LAST_DAY = 40000;
    private static final int STICKS = 3;

    private static final int BOOK_SIZE = 24;
    private static final int ALL_ENTRIES = CLINICS * BOOK_SIZE;
    private static final int NUMBERS = 4;
    private static final int PAGE_SIZE = 4;
    private static final int MOST_DOSES = 4;
    private static final int MOST_GAP = 1000;

    private static final int DOSE = 1;
    private static final int STRIKE = 2;
    private static final int RECALL = 3;
    private static final int SAME = 4;

    private final Schedule[] schedules;
    private final Book[] books;
    private final Clinic[] clinics;
    private final Stick[] sticks;

    // Filled anew by each call that judges: a row made by every call would crowd the room.
    private final Names names;
    private final Course course;

    public ClinicBooks() {
        schedules = new Schedule[VACCINES];
        for (int v = 0; v < VACCINES; v++) {
            schedules[v] = new Schedule();
        }
        books = new Book[CLINICS];
        clinics = new Clinic[CLINICS];
        for (int c = 0; c < CLINICS; c++) {
            books[c] = new Book();
            clinics[c] = new Clinic(c);
        }
        sticks = new Stick[STICKS];
        for (int s = 0; s < STICKS; s++) {
            sticks[s] = new Stick();
        }
        names = new Names();
        course = new Course();
    }

    public void schedule(int vaccine, int doses, int gap1, int gap2, int gap3)
            throws IllegalArgumentException, IllegalStateException {
        requireVaccine(vaccine);
        require(doses >= 1 && doses <= MOST_DOSES);
        require(doses < 2 || isGap(gap1));
        require(doses < 3 || isGap(gap2));
        require(doses < 4 || isGap(gap3));
        if (hasAnyEntry()) {
            throw new IllegalStateException("a book has an entry");
        }
        schedules[vaccine].set(doses, gap1, gap2, gap3);
    }

    public int dose(int clinic, int person, int vaccine, int lot, int day)
            throws IllegalArgumentException, IllegalStateException {
        requireClinic(clinic);
        requirePerson(person);
        requireVaccine(vaccine);
        require(isLot(lot) && isDay(day));
        return append(clinic, DOSE, person, vaccine, lot, day);
    }

    public int strike(int clinic, int entry)
            throws IllegalArgumentException, IllegalStateException {
        requireClinic(clinic);
        Book book = books[clinic];
        require(book.kindOf(entry) == DOSE);
        if (book.isStruck(entry, book.size())) {
            throw new IllegalStateException("the dose is struck");
        }
        return append(clinic, STRIKE, entry, 0, 0, 0);
    }

    public int recall(int clinic, int lot, int from, int to)
            throws IllegalArgumentException, IllegalStateException {
        requireClinic(clinic);
        require(isLot(lot) && isDay(from) && isDay(to) && from <= to);
        return append(clinic, RECALL, lot, from, to, 0);
    }

    public int same(int clinic, int p, int q)
            throws IllegalArgumentException, IllegalStateException {
        requireClinic(clinic);
        requirePerson(p);
        requirePerson(q);
        return append(clinic, SAME, p, q, 0, 0);
    }

    public int write(int clinic, int stick) throws IllegalArgumentException {
        requireClinic(clinic);
        requireStick(stick);
        Clinic writer = clinics[clinic];
        Stick target = sticks[stick];
        target.begin(clinic);
        for (int d = 0; d < CLINICS; d++) {
            target.setWriterKnew(d, writer.knows(d));
            for (int i = writer.leastHeard(d); i < writer.knows(d); i++) {
                target.add(d, i);
            }
        }
        target.finish();
        return target.wholePages();
    }

    public int tear(int stick, int n) throws IllegalArgumentException {
        requireStick(stick);
        require(n >= 0);
        sticks[stick].cutAt(n);
        return sticks[stick].wholePages();
    }

    public int load(int clinic, int stick) throws IllegalArgumentException {
        requireClinic(clinic);
        requireStick(stick);
        Clinic reader = clinics[clinic];
        Stick source = sticks[stick];
        hearWriter(reader, source);
        int fresh = 0;
        for (int i = 0; i < source.entryCount(); i++) {
            int d = source.bookAt(i);
            if (source.numberAt(i) == reader.knows(d)) {
                reader.learn(d);
                fresh++;
            }
        }
        return fresh;
    }

    public int stick(int stick, int w) {
        if (!isStick(stick)) {
            return NONE;
        }
        switch (w) {
            case 0:
                return sticks[stick].wholePages();
            case 1:
                return sticks[stick].writer();
            case 2:
                return sticks[stick].entryCount();
            default:
                return NONE;
        }
    }

    public int known(int c, int d) {
        if (!isClinic(c) || !isClinic(d)) {
            return NONE;
        }
        return clinics[c].knows(d);
    }

    public int heard(int c, int b, int d) {
        if (!isClinic(c) || !isClinic(b) || !isClinic(d) || c == b) {
            return NONE;
        }
        return clinics[c].heardOf(b, d);
    }

    public int entry(int c, int d, int i, int w) {
        if (!isClinic(c) || !isClinic(d) || w < 0 || w > NUMBERS) {
            return NONE;
        }
        if (i < 0 || i >= clinics[c].knows(d)) {
            return NONE;
        }
        return w == 0 ? books[d].kindOf(i) : books[d].numberOf(i, w);
    }

    public int counting(int clinic, int person, int vaccine) throws IllegalArgumentException {
        requireCase(clinic, person, vaccine);
        judge(clinic, person, vaccine);
        return course.counted();
    }

    public int protectedDay(int clinic, int person, int vaccine) throws IllegalArgumentException {
        requireCase(clinic, person, vaccine);
        judge(clinic, person, vaccine);
        return course.protectedFrom(schedules[vaccine]);
    }

    public int due(int clinic, int person, int vaccine) throws IllegalArgumentException {
        requireCase(clinic, person, vaccine);
        judge(clinic, person, vaccine);
        return course.nextDay(schedules[vaccine]);
    }

    public int coverage(int clinic, int vaccine, int day) throws IllegalArgumentException {
        requireClinic(clinic);
        requireVaccine(vaccine);
        readNames(clinic);
        int covered = 0;
        // Whoever is protected has a dose, so that all names may be asked.
        for (int person = 0; person < PERSONS; person++) {
            if (names.of(person) == person && isProtectedBy(clinic, person, vaccine, day)) {
                covered++;
            }
        }
        return covered;
    }

    public int lotList(int clinic, int lot, int i) {
        if (!isClinic(clinic) || !isLot(lot) || i < 0) {
            return NONE;
        }
        int before = 0;
        for (int person = 0; person < PERSONS; person++) {
            if (hasUnstruckDose(clinic, person, lot)) {
                if (before == i) {
                    return person;
                }
                before++;
            }
        }
        return NONE;
    }

    public int whoIs(int clinic, int person) {
        if (!isClinic(clinic) || !isPerson(person)) {
            return NONE;
        }
        readNames(clinic);
        return names.of(person);
    }

    public long sum(int clinic) throws IllegalArgumentException {
        requireClinic(clinic);
        long total = 0;
        for (int d = 0; d < CLINICS; d++) {
            for (int i = 0; i < clinics[clinic].knows(d); i++) {
                total += books[d].valueOf(i, d);
            }
        }
        return total;
    }

    private static boolean isClinic(int clinic) {
        return clinic >= 0 && clinic < CLINICS;
    }

    private static boolean isPerson(int person) {
        return person >= 0 && person < PERSONS;
    }

    private static boolean isLot(int lot) {
        return lot >= 0 && lot < LOTS;
    }

    private static boolean isDay(int day) {
        return day >= 0 && day <= LAST_DAY;
    }

    private static boolean isGap(int gap) {
        return gap >= 0 && gap <= MOST_GAP;
    }

    private static boolean isStick(int stick) {
        return stick >= 0 && stick < STICKS;
    }

    private static void require(boolean allowed) {
        if (!allowed) {
            throw new IllegalArgumentException("outside what the document allows");
        }
    }

    private static void requireClinic(int clinic) {
        require(isClinic(clinic));
    }

    private static void requirePerson(int person) {
        require(isPerson(person));
    }

    private static void requireVaccine(int vaccine) {
        require(vaccine >= 0 && vaccine < VACCINES);
    }

    private static void requireStick(int stick) {
        require(isStick(stick));
    }

    private static void requireCase(int clinic, int person, int vaccine) {
        requireClinic(clinic);
        requirePerson(person);
        requireVaccine(vaccine);
    }

    private boolean hasAnyEntry() {
        for (int d = 0; d < CLINICS; d++) {
            if (books[d].size() > 0) {
                return true;
            }
        }
        return false;
    }

    private int append(int clinic, int kind, int first, int second, int third, int fourth) {
        if (books[clinic].isFull()) {
            throw new IllegalStateException("the book is full");
        }
        int number = books[clinic].append(kind, first, second, third, fourth);
        clinics[clinic].learn(clinic);
        return number;
    }

    private static void hearWriter(Clinic reader, Stick source) {
        if (source.wholePages() == 0) {
            return;
        }
        for (int d = 0; d < CLINICS; d++) {
            reader.hear(source.writer(), d, source.writerKnew(d));
        }
    }

    private void readNames(int clinic) {
        names.clear();
        for (int d = 0; d < CLINICS; d++) {
            for (int i = 0; i < clinics[clinic].knows(d); i++) {
                if (books[d].kindOf(i) == SAME) {
                    names.join(books[d].numberOf(i, 1), books[d].numberOf(i, 2));
                }
            }
        }
    }

    private void judge(int clinic, int person, int vaccine) {
        readNames(clinic);
        readCourse(clinic, names.of(person), vaccine);
    }

    /** Leaves the names as they were read, so that coverage reads them once for all persons. */
    private void readCourse(int clinic, int name, int vaccine) {
        course.clear();
        for (int d = 0; d < CLINICS; d++) {
            for (int i = 0; i < clinics[clinic].knows(d); i++) {
                if (isDoseOf(d, i, name, vaccine) && isValid(clinic, d, i)) {
                    course.add(books[d].numberOf(i, 4));
                }
            }
        }
        course.count(schedules[vaccine]);
    }

    private boolean isDoseOf(int d, int i, int name, int vaccine) {
        return books[d].kindOf(i) == DOSE
                && names.of(books[d].numberOf(i, 1)) == name
                && books[d].numberOf(i, 2) == vaccine;
    }

    private boolean isValid(int clinic, int d, int i) {
        return !books[d].isStruck(i, clinics[clinic].knows(d))
                && !isRecalled(clinic, books[d].numberOf(i, 3), books[d].numberOf(i, 4));
    }

    private boolean isRecalled(int clinic, int lot, int day) {
        for (int d = 0; d < CLINICS; d++) {
            for (int i = 0; i < clinics[clinic].knows(d); i++) {
                if (books[d].recalls(i, lot, day)) {
                    return true;
                }
            }
        }
        return false;
    }

    private boolean isProtectedBy(int clinic, int name, int vaccine, int day) {
        readCourse(clinic, name, vaccine);
        int from = course.protectedFrom(schedules[vaccine]);
        return from != NONE && from <= day;
    }

    private boolean hasUnstruckDose(int clinic, int person, int lot) {
        for (int d = 0; d < CLINICS; d++) {
            int known = clinics[clinic].knows(d);
            for (int i = 0; i < known; i++) {
                if (books[d].gave(i, person, lot) && !books[d].isStruck(i, known)) {
                    return true;
                }
            }
        }
        return false;
    }

    /** How many doses of a vaccine are wanted, and the days between them. */
    private static final class Schedule {
        private int doses;
        private int gap1;
        private int gap2;
        private int gap3;

        Schedule() {
            doses = 1;
        }

        void set(int newDoses, int newGap1, int newGap2, int newGap3) {
            doses = newDoses;
            gap1 = newGap1;
            gap2 = newGap2;
            gap3 = newGap3;
        }

        int doses() {
            return doses;
        }

        int gapBehind(int dosesSoFar) {
            switch (dosesSoFar) {
                case 1:
                    return gap1;
                case 2:
                    return gap2;
                case 3:
                    return gap3;
                default:
                    return 0;
            }
        }
    }

    /** One clinic's entries; what stands in it never changes. */
    private static final class Book {
        private final int[] kinds;
        private final int[] numbers;
        private int size;

        Book() {
            kinds = new int[BOOK_SIZE];
            numbers = new int[BOOK_SIZE * NUMBERS];
        }

        int size() {
            return size;
        }

        boolean isFull() {
            return size >= BOOK_SIZE;
        }

        int append(int kind, int first, int second, int third, int fourth) {
            if (isFull()) {
                return NONE;
            }
            int start = size * NUMBERS;
            kinds[size] = kind;
            numbers[start] = first;
            numbers[start + 1] = second;
            numbers[start + 2] = third;
            numbers[start + 3] = fourth;
            size++;
            return size - 1;
        }

        /** 0, which is no kind, if there is no such entry. */
        int kindOf(int i) {
            return i >= 0 && i < size ? kinds[i] : 0;
        }

        /** The w-th number of an entry, w from 1 to 4. */
        int numberOf(int i, int w) {
            if (i < 0 || i >= size || w < 1 || w > NUMBERS) {
                return 0;
            }
            return numbers[i * NUMBERS + w - 1];
        }

        /** Whether one of the book's first entries, so many as are known, strikes entry i. */
        boolean isStruck(int i, int known) {
            for (int k = 0; k < known && k < size; k++) {
                if (kinds[k] == STRIKE && numberOf(k, 1) == i) {
                    return true;
                }
            }
            return false;
        }

        boolean recalls(int i, int lot, int day) {
            return kindOf(i) == RECALL && numberOf(i, 1) == lot
                    && numberOf(i, 2) <= day && day <= numberOf(i, 3);
        }

        boolean gave(int i, int person, int lot) {
            return kindOf(i) == DOSE && numberOf(i, 1) == person && numberOf(i, 3) == lot;
        }

        long valueOf(int i, int clinic) {
            long value = kindOf(i);
            value = value * 31 + clinic;
            value = value * 31 + i;
            for (int w = 1; w <= NUMBERS; w++) {
                value = value * 1000003 + numberOf(i, w);
            }
            return value;
        }
    }

    /** How far a clinic knows each book, and how far it has heard that others do. */
    private static final class Clinic {
        private final int self;
        private final int[] known;
        private final int[] heard;

        Clinic(int number) {
            self = number;
            known = new int[CLINICS];
            heard = new int[CLINICS * CLINICS];
        }

        int knows(int d) {
            return isClinic(d) ? known[d] : 0;
        }

        void learn(int d) {
            if (isClinic(d)) {
                known[d]++;
            }
        }

        int heardOf(int b, int d) {
            return isClinic(b) && isClinic(d) ? heard[b * CLINICS + d] : 0;
        }

        void hear(int b, int d, int count) {
            if (isClinic(b) && isClinic(d) && b != self && count > heardOf(b, d)) {
                heard[b * CLINICS + d] = count;
            }
        }

        /** How far all that may need book d know it; its owner and this clinic need nothing. */
        int leastHeard(int d) {
            int least = BOOK_SIZE;
            for (int b = 0; b < CLINICS; b++) {
                if (b != self && b != d) {
                    least = Math.min(least, heardOf(b, d));
                }
            }
            return least;
        }
    }

    /**
     * What was written, as far as it is whole. Of an entry only its place is kept: books are
     * append-only, so that the entry there stays the one that was written.
     */
    private static final class Stick {
        private final int[] writerKnew;
        private final int[] entryBooks;
        private final int[] entryNumbers;
        private int writer;
        private int entryCount;
        private int wholePages;

        Stick() {
            writerKnew = new int[CLINICS];
            entryBooks = new int[ALL_ENTRIES];
            entryNumbers = new int[ALL_ENTRIES];
        }

        void begin(int newWriter) {
            writer = newWriter;
            entryCount = 0;
        }

        void setWriterKnew(int d, int count) {
            if (isClinic(d)) {
                writerKnew[d] = count;
            }
        }

        void add(int d, int number) {
            if (entryCount < ALL_ENTRIES) {
                entryBooks[entryCount] = d;
                entryNumbers[entryCount] = number;
                entryCount++;
            }
        }

        void finish() {
            wholePages = 1 + (entryCount + PAGE_SIZE - 1) / PAGE_SIZE;
        }

        void cutAt(int pages) {
            wholePages = Math.min(wholePages, pages);
            int entryPages = Math.max(0, wholePages - 1);
            entryCount = Math.min(entryCount, entryPages * PAGE_SIZE);
        }

        int wholePages() {
            return wholePages;
        }

        int writer() {
            return wholePages > 0 ? writer : NONE;
        }

        int writerKnew(int d) {
            return isClinic(d) ? writerKnew[d] : 0;
        }

        int entryCount() {
            return entryCount;
        }

        int bookAt(int i) {
            return has(i) ? entryBooks[i] : NONE;
        }

        int numberAt(int i) {
            return has(i) ? entryNumbers[i] : NONE;
        }

        private boolean has(int i) {
            return i >= 0 && i < entryCount;
        }
    }

    /** For each person the least number of those who are one with it. */
    private static final class Names {
        private final int[] least;

        Names() {
            least = new int[PERSONS];
        }

        void clear() {
            for (int p = 0; p < PERSONS; p++) {
                least[p] = p;
            }
        }

        void join(int p, int q) {
            int name = Math.min(of(p), of(q));
            int other = Math.max(of(p), of(q));
            for (int r = 0; r < PERSONS; r++) {
                if (least[r] == other) {
                    least[r] = name;
                }
            }
        }

        int of(int person) {
            return isPerson(person) ? least[person] : NONE;
        }
    }

    /**
     * The valid doses of those who are one, of one vaccine, and which count. Days are enough:
     * which of two doses of one day counts changes no answer.
     */
    private static final class Course {
        private final int[] days;
        private int size;
        private int counted;
        private int lastDay;

        Course() {
            days = new int[ALL_ENTRIES];
        }

        void clear() {
            size = 0;
            counted = 0;
            lastDay = NONE;
        }

        void add(int day) {
            if (size >= ALL_ENTRIES) {
                return;
            }
            int place = size;
            while (place > 0 && days[place - 1] > day) {
                days[place] = days[place - 1];
                place--;
            }
            days[place] = day;
            size++;
        }

        void count(Schedule schedule) {
            for (int i = 0; i < size && counted < schedule.doses(); i++) {
                if (counted == 0 || days[i] >= lastDay + schedule.gapBehind(counted)) {
                    counted++;
                    lastDay = days[i];
                }
            }
        }

        int counted() {
            return counted;
        }

        int protectedFrom(Schedule schedule) {
            return counted >= schedule.doses() ? lastDay : NONE;
        }

        int nextDay(Schedule schedule) {
            if (counted >= schedule.doses()) {
                return NONE;
            }
            return counted == 0 ? 0 : lastDay + schedule.gapBehind(counted);
        }
    }
}
