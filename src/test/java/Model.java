import java.util.ArrayList;
import java.util.Comparator;
import java.util.List;
import java.util.TreeSet;

/** A second reading of the document, with lists of entries and pages, as plain as it goes. */
final class Model {
    private record Entry(int kind, int clinic, int number, int[] n) {
    }

    private static final class Page {
        int writer = -1;
        int[] knew;
        final List<Entry> entries = new ArrayList<>();
        boolean whole = true;
    }

    private final int[][] schedules = {{1, 0, 0, 0}, {1, 0, 0, 0}, {1, 0, 0, 0}};
    private final List<List<List<Entry>>> known = new ArrayList<>();
    private final int[][][] heard = new int[4][4][4];
    private final List<List<Page>> sticks = new ArrayList<>();

    Model() {
        for (int c = 0; c < 4; c++) {
            known.add(new ArrayList<>());
            for (int d = 0; d < 4; d++) {
                known.get(c).add(new ArrayList<>());
            }
        }
        for (int s = 0; s < 3; s++) {
            sticks.add(new ArrayList<>());
        }
    }

    private static boolean in(int x, int from, int to) {
        return from <= x && x <= to;
    }

    private static void argument(boolean fine) {
        if (!fine) {
            throw new IllegalArgumentException();
        }
    }

    private static void state(boolean fine) {
        if (!fine) {
            throw new IllegalStateException();
        }
    }

    private List<Entry> book(int c) {
        return known.get(c).get(c);
    }

    private int append(int c, int kind, int... n) {
        state(book(c).size() < 24);
        int[] numbers = new int[4];
        System.arraycopy(n, 0, numbers, 0, n.length);
        book(c).add(new Entry(kind, c, book(c).size(), numbers));
        return book(c).size() - 1;
    }

    int schedule(int v, int doses, int g1, int g2, int g3) {
        argument(in(v, 0, 2) && in(doses, 1, 4));
        int[] gaps = {0, g1, g2, g3};
        for (int k = 1; k < doses; k++) {
            argument(in(gaps[k], 0, 1000));
        }
        for (int c = 0; c < 4; c++) {
            state(book(c).isEmpty());
        }
        gaps[0] = doses;
        schedules[v] = gaps;
        return 0;
    }

    int dose(int c, int p, int v, int lot, int day) {
        argument(in(c, 0, 3) && in(p, 0, 11) && in(v, 0, 2) && in(lot, 0, 9) && in(day, 0, 40000));
        return append(c, 1, p, v, lot, day);
    }

    int strike(int c, int i) {
        argument(in(c, 0, 3) && in(i, 0, book(c).size() - 1) && book(c).get(i).kind == 1);
        state(book(c).stream().noneMatch(e -> e.kind == 2 && e.n[0] == i));
        return append(c, 2, i);
    }

    int recall(int c, int lot, int from, int to) {
        argument(in(c, 0, 3) && in(lot, 0, 9) && in(from, 0, 40000) && in(to, 0, 40000) && from <= to);
        return append(c, 3, lot, from, to);
    }

    int same(int c, int p, int q) {
        argument(in(c, 0, 3) && in(p, 0, 11) && in(q, 0, 11));
        return append(c, 4, p, q);
    }

    int write(int c, int s) {
        argument(in(c, 0, 3) && in(s, 0, 2));
        List<Page> pages = sticks.get(s);
        pages.clear();
        Page first = new Page();
        first.writer = c;
        first.knew = new int[4];
        pages.add(first);
        List<Entry> all = new ArrayList<>();
        for (int d = 0; d < 4; d++) {
            List<Entry> mine = known.get(c).get(d);
            first.knew[d] = mine.size();
            int least = Integer.MAX_VALUE;
            for (int b = 0; b < 4; b++) {
                if (b != c && b != d) {
                    least = Math.min(least, heard[c][b][d]);
                }
            }
            for (Entry e : mine) {
                if (e.number >= least) {
                    all.add(e);
                }
            }
        }
        for (int k = 0; k < all.size(); k++) {
            if (k % 4 == 0) {
                pages.add(new Page());
            }
            pages.get(pages.size() - 1).entries.add(all.get(k));
        }
        return pages.size();
    }

    int tear(int s, int n) {
        argument(in(s, 0, 2) && n >= 0);
        List<Page> pages = sticks.get(s);
        for (int k = n; k < pages.size(); k++) {
            pages.get(k).whole = false;
        }
        return stick(s, 0);
    }

    int load(int c, int s) {
        argument(in(c, 0, 3) && in(s, 0, 2));
        int fresh = 0;
        for (Page page : sticks.get(s)) {
            if (!page.whole) {
                continue;
            }
            if (page.knew != null && page.writer != c) {
                for (int d = 0; d < 4; d++) {
                    int[] row = heard[c][page.writer];
                    row[d] = Math.max(row[d], page.knew[d]);
                }
            }
            for (Entry e : page.entries) {
                List<Entry> mine = known.get(c).get(e.clinic);
                if (mine.size() == e.number) {
                    mine.add(e);
                    fresh++;
                }
            }
        }
        return fresh;
    }

    int stick(int s, int w) {
        if (!in(s, 0, 2) || !in(w, 0, 2)) {
            return -1;
        }
        int whole = 0;
        int writer = -1;
        int entries = 0;
        for (Page page : sticks.get(s)) {
            if (page.whole) {
                whole++;
                entries += page.entries.size();
                writer = Math.max(writer, page.writer);
            }
        }
        return w == 0 ? whole : w == 1 ? writer : entries;
    }

    int known(int c, int d) {
        return in(c, 0, 3) && in(d, 0, 3) ? known.get(c).get(d).size() : -1;
    }

    int heard(int c, int b, int d) {
        return in(c, 0, 3) && in(b, 0, 3) && in(d, 0, 3) && b != c ? heard[c][b][d] : -1;
    }

    int entry(int c, int d, int i, int w) {
        if (!in(i, 0, known(c, d) - 1) || !in(w, 0, 4)) {
            return -1;
        }
        Entry e = known.get(c).get(d).get(i);
        return w == 0 ? e.kind : e.n[w - 1];
    }

    private List<Entry> all(int c, int kind) {
        List<Entry> found = new ArrayList<>();
        for (List<Entry> book : known.get(c)) {
            for (Entry e : book) {
                if (e.kind == kind) {
                    found.add(e);
                }
            }
        }
        return found;
    }

    private TreeSet<Integer> one(int c, int p) {
        TreeSet<Integer> reached = new TreeSet<>();
        reached.add(p);
        for (int round = 0; round < 12; round++) {
            for (Entry e : all(c, 4)) {
                if (reached.contains(e.n[0]) || reached.contains(e.n[1])) {
                    reached.add(e.n[0]);
                    reached.add(e.n[1]);
                }
            }
        }
        return reached;
    }

    private boolean struck(int c, Entry dose) {
        return all(c, 2).stream().anyMatch(e -> e.clinic == dose.clinic && e.n[0] == dose.number);
    }

    private boolean valid(int c, Entry dose) {
        return !struck(c, dose) && all(c, 3).stream().noneMatch(
                e -> e.n[0] == dose.n[2] && e.n[1] <= dose.n[3] && dose.n[3] <= e.n[2]);
    }

    private List<Entry> thatCount(int c, int p, int v) {
        argument(in(c, 0, 3) && in(p, 0, 11) && in(v, 0, 2));
        TreeSet<Integer> persons = one(c, p);
        List<Entry> doses = new ArrayList<>();
        for (Entry e : all(c, 1)) {
            if (persons.contains(e.n[0]) && e.n[1] == v && valid(c, e)) {
                doses.add(e);
            }
        }
        doses.sort(Comparator.<Entry>comparingInt(e -> e.n[3])
                .thenComparingInt(Entry::clinic).thenComparingInt(Entry::number));
        List<Entry> counting = new ArrayList<>();
        for (Entry e : doses) {
            int k = counting.size();
            if (k == 0 || k < schedules[v][0] && e.n[3] >= counting.get(k - 1).n[3] + schedules[v][k]) {
                counting.add(e);
            }
        }
        return counting;
    }

    int counting(int c, int p, int v) {
        return thatCount(c, p, v).size();
    }

    int protectedDay(int c, int p, int v) {
        List<Entry> counting = thatCount(c, p, v);
        return counting.size() == schedules[v][0] ? counting.get(counting.size() - 1).n[3] : -1;
    }

    int due(int c, int p, int v) {
        List<Entry> counting = thatCount(c, p, v);
        int k = counting.size();
        return k == 0 ? 0 : k == schedules[v][0] ? -1 : counting.get(k - 1).n[3] + schedules[v][k];
    }

    int coverage(int c, int v, int day) {
        argument(in(c, 0, 3) && in(v, 0, 2));
        TreeSet<Integer> names = new TreeSet<>();
        for (Entry e : all(c, 1)) {
            names.add(one(c, e.n[0]).first());
        }
        int covered = 0;
        for (int name : names) {
            int from = protectedDay(c, name, v);
            if (from != -1 && from <= day) {
                covered++;
            }
        }
        return covered;
    }

    int lotList(int c, int lot, int i) {
        if (!in(c, 0, 3)) {
            return -1;
        }
        TreeSet<Integer> persons = new TreeSet<>();
        for (Entry e : all(c, 1)) {
            if (e.n[2] == lot && !struck(c, e)) {
                persons.add(e.n[0]);
            }
        }
        return in(i, 0, persons.size() - 1) ? new ArrayList<>(persons).get(i) : -1;
    }

    int whoIs(int c, int p) {
        return in(c, 0, 3) && in(p, 0, 11) ? one(c, p).first() : -1;
    }

    long sum(int c) {
        argument(in(c, 0, 3));
        long total = 0;
        for (int kind = 1; kind <= 4; kind++) {
            for (Entry e : all(c, kind)) {
                total += (((((e.kind * 31L + e.clinic) * 31 + e.number) * 1000003 + e.n[0]) * 1000003 + e.n[1])
                        * 1000003 + e.n[2]) * 1000003 + e.n[3];
            }
        }
        return total;
    }
}
