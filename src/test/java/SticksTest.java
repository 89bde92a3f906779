/** Promises 7 to 12: write, tear, load, stick, known and heard. */
public final class SticksTest {
    private static final int MIN = Integer.MIN_VALUE;
    private static final int MAX = Integer.MAX_VALUE;

    public static void main(String[] args) {
        writePages();
        writeIsOfItsTime();
        writeAnew();
        writeFromLeastHeard(0, new int[] {1, 2, 3});
        writeFromLeastHeard(3, new int[] {2, 1, 0});
        writeFromLeastHeard(1, new int[] {0, 3, 2});
        writeAsksNeitherWriterNorOwner();
        writeNothingIfOthersKnowMore();
        writeOneBookBehindTheOther();
        writeAllBooks();
        writeRefused();
        tear();
        tearRefused();
        load();
        loadInParts();
        loadByWriter();
        loadKeepsTheGreaterHeard();
        loadTornAndBlank();
        loadHearsOfTheWriterAlone();
        loadRefused();
        stickNone();
        knownNone();
        heardNone();
        Check.finish();
    }

    private static void writePages() {
        int[] pages = {1, 2, 2, 2, 2, 3, 3, 3, 3, 4};
        for (int n = 0; n < pages.length; n++) {
            ClinicBooks x = new ClinicBooks();
            Check.fill(x, 1, n);
            Check.equal("pages of " + n + " entries", pages[n], x.write(1, 2));
            Check.equal("stick's pages", pages[n], x.stick(2, 0));
            Check.equal("stick's writer", 1, x.stick(2, 1));
            Check.equal("stick's entries", n, x.stick(2, 2));
            Check.equal("another stick", 0, x.stick(0, 0));
        }
    }

    private static void writeIsOfItsTime() {
        ClinicBooks x = new ClinicBooks();
        x.dose(0, 1, 0, 0, 5);
        x.write(0, 0);
        x.dose(0, 2, 0, 0, 6);
        Check.equal("entries when it was written", 1, x.load(1, 0));
        Check.equal("known when it was written", 1, x.known(1, 0));
        Check.equal("heard when it was written", 1, x.heard(1, 0, 0));
    }

    private static void writeAnew() {
        ClinicBooks x = new ClinicBooks();
        Check.fill(x, 0, 9);
        x.write(0, 0);
        x.dose(1, 1, 0, 0, 5);
        Check.equal("written anew", 2, x.write(1, 0));
        Check.equal("the new writer", 1, x.stick(0, 1));
        Check.equal("the new entries alone", 1, x.stick(0, 2));
        Check.equal("loaded", 1, x.load(2, 0));
        Check.equal("nothing of the old writer", 0, x.heard(2, 0, 0));
        x.tear(0, 0);
        Check.equal("written anew when torn", 2, x.write(1, 0));
        Check.equal("whole again", 1, x.stick(0, 2));
    }

    private static void writeFromLeastHeard(int writer, int[] others) {
        ClinicBooks x = new ClinicBooks();
        Check.fill(x, writer, 3);
        x.write(writer, 0);
        for (int i = 0; i < 3; i++) {
            int c = others[i];
            x.load(c, 0);
            x.write(c, 1);
            x.load(writer, 1);
            Check.equal("heard of " + c, 3, x.heard(writer, c, writer));
            x.write(writer, 2);
            Check.equal("written when heard of up to " + c, i < 2 ? 3 : 0, x.stick(2, 2));
        }
        Check.equal("page 0 alone", 1, x.stick(2, 0));
        Check.fill(x, writer, 2);
        Check.equal("what is new", 2, x.write(writer, 2));
        Check.equal("the new entries", 2, x.stick(2, 2));
        Check.equal("they are the next ones", 2, x.load(others[1], 2));
        Check.equal("all known", 5, x.known(others[1], writer));
    }

    private static void writeAsksNeitherWriterNorOwner() {
        ClinicBooks x = new ClinicBooks();
        Check.fill(x, 0, 3);
        x.write(0, 0);
        x.load(2, 0);
        x.load(3, 0);
        Check.carry(x, 2, 1);
        x.write(1, 1);
        Check.equal("3 may lack them", 3, x.stick(1, 2));
        Check.carry(x, 3, 1);
        Check.equal("not heard of the owner", 0, x.heard(1, 0, 0));
        Check.equal("known by hearsay", 3, x.known(1, 0));
        x.write(1, 1);
        Check.equal("all others have them", 0, x.stick(1, 2));
    }

    private static void writeNothingIfOthersKnowMore() {
        ClinicBooks x = new ClinicBooks();
        Check.fill(x, 0, 3);
        x.write(0, 0);
        for (int c = 2; c < 4; c++) {
            x.load(c, 0);
            x.write(c, 1);
            x.tear(1, 1);
            x.load(1, 1);
            Check.equal("heard of " + c, 3, x.heard(1, c, 0));
        }
        Check.equal("itself it knows none", 0, x.known(1, 0));
        Check.equal("page 0 alone", 1, x.write(1, 2));
        Check.equal("no entries", 0, x.stick(2, 2));
        Check.fill(x, 1, 1);
        x.write(1, 2);
        Check.equal("its own entry alone", 1, x.stick(2, 2));
    }

    private static void writeOneBookBehindTheOther() {
        ClinicBooks x = new ClinicBooks();
        Check.fill(x, 0, 2);
        Check.fill(x, 1, 3);
        Check.fill(x, 3, 1);
        Check.carry(x, 1, 3);
        Check.carry(x, 0, 3);
        Check.equal("six entries", 3, x.write(3, 1));
        x.tear(1, 2);
        Check.equal("four entries on the first page", 4, x.load(2, 1));
        Check.equal("two of book 0", 2, x.known(2, 0));
        Check.equal("two of book 1", 2, x.known(2, 1));
        Check.equal("none of book 3", 0, x.known(2, 3));
    }

    private static void writeAllBooks() {
        ClinicBooks x = new ClinicBooks();
        for (int c = 0; c < 4; c++) {
            Check.fill(x, c, 24);
            Check.carry(x, c, 2);
        }
        Check.equal("all pages", 25, x.write(2, 0));
        Check.equal("all entries", 96, x.stick(0, 2));
        x.tear(0, 19);
        Check.equal("books 0 and 1 are new, 2 its own", 24 + 24 + 24, x.load(3, 0));
        Check.equal("book 2 to its end", 24, x.known(3, 2));
        x.tear(0, 18);
        x.load(0, 0);
        Check.equal("book 2 without its last page", 20, x.known(0, 2));
    }

    private static void writeRefused() {
        ClinicBooks x = new ClinicBooks();
        Check.fill(x, 0, 2);
        x.write(0, 0);
        String before = Check.seen(x);
        for (int bad : new int[] {-1, 4, MIN, MAX}) {
            Check.argument("write of clinic " + bad, () -> x.write(bad, 0));
        }
        for (int bad : new int[] {-1, 3, MIN, MAX}) {
            Check.argument("write of stick " + bad, () -> x.write(0, bad));
        }
        Check.equal("refused writes change nothing", before, Check.seen(x));
    }

    private static void tear() {
        ClinicBooks x = new ClinicBooks();
        Check.equal("a blank stick", 0, x.tear(0, 5));
        Check.fill(x, 0, 9);
        x.write(0, 0);
        x.write(0, 1);
        Check.equal("behind its end", 4, x.tear(0, MAX));
        Check.equal("at its end", 4, x.tear(0, 4));
        Check.equal("nothing is lost", 9, x.stick(0, 2));
        Check.equal("its last page", 3, x.tear(0, 3));
        Check.equal("eight entries stay", 8, x.stick(0, 2));
        Check.equal("blank pages stay blank", 3, x.tear(0, 4));
        Check.equal("and their entries", 8, x.stick(0, 2));
        Check.equal("two pages", 2, x.tear(0, 2));
        Check.equal("four entries stay", 4, x.stick(0, 2));
        Check.equal("page 0 alone", 1, x.tear(0, 1));
        Check.equal("no entry stays", 0, x.stick(0, 2));
        Check.equal("its writer stays", 0, x.stick(0, 1));
        Check.equal("no page", 0, x.tear(0, 0));
        Check.equal("no writer", -1, x.stick(0, 1));
        Check.equal("no whole page", 0, x.stick(0, 0));
        Check.equal("no entries", 0, x.stick(0, 2));
        Check.equal("another stick is whole", 9, x.stick(1, 2));
    }

    private static void tearRefused() {
        ClinicBooks x = new ClinicBooks();
        Check.fill(x, 0, 2);
        x.write(0, 0);
        String before = Check.seen(x);
        for (int bad : new int[] {-1, 3, MIN, MAX}) {
            Check.argument("tear of stick " + bad, () -> x.tear(bad, 0));
        }
        Check.argument("tear at -1", () -> x.tear(0, -1));
        Check.argument("tear at the least number", () -> x.tear(0, MIN));
        Check.equal("refused tears change nothing", before, Check.seen(x));
    }

    private static void load() {
        ClinicBooks x = new ClinicBooks();
        x.dose(0, 1, 0, 0, 5);
        x.same(0, 1, 2);
        x.write(0, 0);
        Check.equal("new entries", 2, x.load(1, 0));
        Check.equal("no new ones", 0, x.load(1, 0));
        Check.equal("new to another", 2, x.load(2, 0));
        Check.equal("known", 2, x.known(1, 0));
        Check.equal("it is not its own", 0, x.known(1, 1));
        Check.equal("heard", 2, x.heard(1, 0, 0));
        Check.equal("the writer hears nothing of it", 0, x.heard(0, 1, 0));
        Check.equal("what it says", 5, x.protectedDay(1, 2, 0));
        Check.equal("the stick stays as it is", 2, x.stick(0, 2));
        x.dose(0, 3, 0, 0, 6);
        x.write(0, 0);
        Check.equal("all are on it", 3, x.stick(0, 2));
        Check.equal("one is new", 1, x.load(1, 0));
    }

    private static void loadInParts() {
        ClinicBooks x = new ClinicBooks();
        Check.fill(x, 0, 7);
        x.write(0, 0);
        x.write(0, 1);
        x.tear(0, 2);
        Check.equal("the first page of entries", 4, x.load(1, 0));
        Check.equal("what is on the others", 3, x.load(1, 1));
        Check.equal("all known", 7, x.known(1, 0));
        Check.equal("nothing twice", 0, x.load(1, 0));
        Check.equal("still all known", 7, x.known(1, 0));
    }

    private static void loadByWriter() {
        ClinicBooks x = new ClinicBooks();
        Check.fill(x, 0, 2);
        x.write(0, 0);
        Check.equal("the writer learns nothing", 0, x.load(0, 0));
        Check.equal("of itself it hears nothing", -1, x.heard(0, 0, 0));
        for (int b = 1; b < 4; b++) {
            Check.equal("nor of others", 0, x.heard(0, b, 0));
        }
        x.write(0, 1);
        Check.equal("all stay to be written", 2, x.stick(1, 2));
    }

    private static void loadKeepsTheGreaterHeard() {
        ClinicBooks x = new ClinicBooks();
        Check.fill(x, 0, 1);
        x.write(0, 0);
        Check.fill(x, 0, 4);
        x.write(0, 1);
        x.load(1, 1);
        Check.equal("the newer stick", 5, x.heard(1, 0, 0));
        Check.equal("the older stick", 0, x.load(1, 0));
        Check.equal("less is not heard", 5, x.heard(1, 0, 0));
        x.load(2, 0);
        Check.equal("the older stick first", 1, x.heard(2, 0, 0));
        Check.equal("then the newer", 4, x.load(2, 1));
        Check.equal("more is heard", 5, x.heard(2, 0, 0));
    }

    private static void loadTornAndBlank() {
        ClinicBooks x = new ClinicBooks();
        Check.fill(x, 0, 9);
        Check.equal("a blank stick", 0, x.load(1, 0));
        Check.equal("tells nothing", 0, x.heard(1, 0, 0));
        x.write(0, 0);
        x.tear(0, 3);
        Check.equal("two pages of entries", 8, x.load(1, 0));
        Check.equal("page 0 tells of all", 9, x.heard(1, 0, 0));
        x.tear(0, 1);
        Check.equal("page 0 alone", 0, x.load(2, 0));
        Check.equal("it tells of all", 9, x.heard(2, 0, 0));
        Check.equal("and brings none", 0, x.known(2, 0));
        x.tear(0, 0);
        Check.equal("no page", 0, x.load(3, 0));
        Check.equal("tells nothing", 0, x.heard(3, 0, 0));
    }

    private static void loadHearsOfTheWriterAlone() {
        ClinicBooks x = new ClinicBooks();
        Check.fill(x, 0, 2);
        Check.fill(x, 1, 3);
        Check.fill(x, 3, 1);
        Check.carry(x, 0, 1);
        Check.carry(x, 1, 2);
        int[] want = {2, 3, 0, 0};
        for (int d = 0; d < 4; d++) {
            Check.equal("heard of the writer, book " + d, want[d], x.heard(2, 1, d));
            Check.equal("heard of 0, book " + d, 0, x.heard(2, 0, d));
            Check.equal("heard of 3, book " + d, 0, x.heard(2, 3, d));
        }
        Check.carry(x, 2, 0);
        Check.equal("of its own book, too", 2, x.heard(0, 2, 0));
    }

    private static void loadRefused() {
        ClinicBooks x = new ClinicBooks();
        Check.fill(x, 0, 2);
        x.write(0, 0);
        String before = Check.seen(x);
        for (int bad : new int[] {-1, 4, MIN, MAX}) {
            Check.argument("load of clinic " + bad, () -> x.load(bad, 0));
        }
        for (int bad : new int[] {-1, 3, MIN, MAX}) {
            Check.argument("load of stick " + bad, () -> x.load(1, bad));
        }
        Check.equal("refused loads change nothing", before, Check.seen(x));
    }

    private static void stickNone() {
        ClinicBooks x = new ClinicBooks();
        x.write(3, 0);
        x.write(0, 2);
        for (int bad : new int[] {-1, 3, MIN, MAX}) {
            for (int w = 0; w < 3; w++) {
                Check.equal("stick " + bad, -1, x.stick(bad, w));
            }
            Check.equal("stick's w " + bad, -1, x.stick(0, bad));
        }
        Check.equal("writer of stick 0", 3, x.stick(0, 1));
        Check.equal("writer of stick 1", -1, x.stick(1, 1));
        Check.equal("writer of stick 2", 0, x.stick(2, 1));
    }

    private static void knownNone() {
        ClinicBooks x = new ClinicBooks();
        Check.fill(x, 0, 2);
        Check.equal("its own", 2, x.known(0, 0));
        Check.equal("another's", 0, x.known(0, 1));
        Check.equal("by another", 0, x.known(1, 0));
        for (int bad : new int[] {-1, 4, MIN, MAX}) {
            Check.equal("known by " + bad, -1, x.known(bad, 0));
            Check.equal("known of " + bad, -1, x.known(0, bad));
        }
    }

    private static void heardNone() {
        ClinicBooks x = new ClinicBooks();
        for (int bad : new int[] {-1, 4, MIN, MAX}) {
            Check.equal("heard by " + bad, -1, x.heard(bad, 1, 2));
            Check.equal("heard of " + bad, -1, x.heard(0, bad, 2));
            Check.equal("heard of book " + bad, -1, x.heard(0, 1, bad));
        }
        for (int c = 0; c < 4; c++) {
            for (int d = 0; d < 4; d++) {
                Check.equal("heard of itself", -1, x.heard(c, c, d));
            }
        }
    }
}
