import java.util.ArrayList;
import java.util.Arrays;
import java.util.List;
import java.util.Random;
import java.util.Set;

/** Runs of drawn calls, of up to 512 each, on PageOne and on the model beside it; every answer must be the same. */
public final class RandomRunsTest {
    private static final int RUNS = 1500;
    private static final int CALLS = 512;
    private static final int[] ODD = {-1, -2, 12, 8, 60, 61, 80, 81, 100, 201, Integer.MAX_VALUE, Integer.MIN_VALUE};

    private static final Set<String> ASKING = Set.of("cell", "piece", "item", "shortOf", "broken", "printed",
            "plated", "plateOf", "bill", "about");

    private record Told(String call, int[] args, int got, int want) {
        @Override
        public String toString() {
            return call + Arrays.toString(args) + " answered " + got + (got == want ? "" : ", due is " + want);
        }
    }

    private final int seed;
    private final Random draw;
    private final PageOne x = new PageOne();
    private final Model m = new Model();
    private final int pages;
    private final int columns;
    private final int lines;
    private final boolean wild;
    private final boolean crowded;
    private final boolean oneDay;
    private final List<Told> told = new ArrayList<>();
    private boolean wrong = false;
    /** How many calls did something that a run is drawn for: plates, fills, breaches, notices that stand. */
    private static final int[] SEEN = new int[12];

    private RandomRunsTest(int seed) {
        this.seed = seed;
        draw = new Random(seed);
        pages = 1 + draw.nextInt(4);
        columns = 1 + draw.nextInt(4);
        lines = 1 + draw.nextInt(seed % 5 == 0 ? 60 : 6);
        wild = seed % 4 == 0;
        crowded = seed % 7 == 0;
        oneDay = seed % 3 == 0;
    }

    public static void main(String[] args) {
        for (int seed = 1; seed <= RUNS; seed++) {
            RandomRunsTest run = new RandomRunsTest(seed);
            run.go();
            if (run.wrong) {
                System.out.println("seed " + seed);
                run.told.forEach(System.out::println);
                System.exit(1);
            }
        }
        System.out.println("cases met: " + Arrays.toString(SEEN));
        for (int i = 0; i < SEEN.length; i++) {
            if (SEEN[i] == 0) {
                System.out.println("the drawn runs never came to case " + i);
                System.exit(1);
            }
        }
        System.out.println("all answers are as due");
    }

    private void same(String call, int got, int want, int... args) {
        if (got != want || !ASKING.contains(call)) {
            told.add(new Told(call, args, got, want));
        }
        wrong |= got != want;
    }

    private int upTo(int n) {
        if (wild && draw.nextInt(25) == 0) {
            return ODD[draw.nextInt(ODD.length)];
        }
        return draw.nextInt(Math.max(1, n));
    }

    private int page() {
        return upTo(pages);
    }

    private int col() {
        return upTo(columns);
    }

    private int line() {
        return upTo(lines);
    }

    private int item() {
        return upTo(x.about(2) + (draw.nextInt(20) == 0 ? 1 : 0));
    }

    /** An item of a kind, most times; draws among all would seldom meet the kind that a call is for. */
    private int item(int kind) {
        for (int i = 0; i < 8 && draw.nextInt(15) > 0; i++) {
            int a = item();
            if (x.item(a, 0) == kind) {
                return a;
            }
        }
        return item();
    }

    private void go() {
        for (int p = 0; p < pages; p++) {
            for (int c = 0; c < columns; c++) {
                int n = draw.nextInt(5) == 0 ? draw.nextInt(lines + 1) : lines;
                same("column", x.column(p, c, n) ? 1 : 0, m.column(p, c, n), p, c, n);
            }
        }
        for (int i = draw.nextInt(30); i > 0; i--) {
            // A few long stories from the start, so that some of them run on over columns and pages.
            int n = 1 + draw.nextInt(6);
            int a = x.about(2) < 1 + seed % 3 ? -1 : draw.nextInt(x.about(2));
            if (a == -1) {
                same("story", x.story(n), m.story(n), n);
            } else {
                same("line", x.line(a, 50 + n * 10), m.line(a, 50 + n * 10), a, 50 + n * 10);
            }
        }
        if (oneDay && seed % 4 == 1) {
            nearlyAllActs();
        }
        // The tests' own questions (about, cell) are not counted: an object is used for 512 calls of a run.
        for (int i = pages * columns; i < CALLS && !wrong; i++) {
            int kind = draw.nextInt(100);
            if (kind < 22) {
                make();
            } else if (kind < 66) {
                act();
            } else if (kind < 74) {
                turn();
            } else {
                ask();
            }
        }
    }

    private void nearlyAllActs() {
        int f = x.filler(1, 1);
        same("filler", f, m.filler(1, 1), 1, 1);
        for (int i = 0; i < 145; i++) {
            same("put", x.put(f, 0, 0, 0, 1), m.put(f, 0, 0, 0, 1), f, 0, 0, 0, 1);
            same("lift", x.lift(f), m.lift(f), f);
        }
    }

    private void make() {
        int many = x.about(2);
        int kind = draw.nextInt(11);
        if (many > 25 && !crowded && draw.nextInt(10) > 0) {
            kind = 1 + draw.nextInt(3);
        }
        int a = kind == 9 ? item() : item(kind == 6 ? 2 : 0);
        switch (kind) {
            case 0 -> { int n = 1 + upTo(4); same("story", x.story(n), m.story(n), n); }
            case 1, 2, 3 -> {
                int w = draw.nextInt(6) == 0 ? upTo(202) : 90 + upTo(20);
                same("line", x.line(a, w), m.line(a, w), a, w);
            }
            case 4 -> {
                int w = 1 + upTo(3);
                int h = 1 + upTo(2);
                same("head", x.head(a, w, h), m.head(a, w, h), a, w, h);
            }
            case 5 -> same("picture", x.picture(), m.picture());
            case 6 -> {
                int w = 1 + upTo(3);
                int h = 1 + upTo(3);
                same("size", x.size(a, w, h), m.size(a, w, h), a, w, h);
            }
            case 7 -> paid();
            case 8 -> {
                int n = upTo(4);
                int most = n + upTo(4);
                same("filler", x.filler(n, most), m.filler(n, most), n, most);
            }
            case 9 -> {
                int h = 1 + upTo(2);
                same("notice", x.notice(a, h), m.notice(a, h), a, h);
            }
            default -> {
                int b = upTo(4);
                int c = upTo(4);
                same("rival", x.rival(b, c) ? 1 : 0, m.rival(b, c), b, c);
                same("names", x.names(a, b) ? 1 : 0, m.names(a, b), a, b);
            }
        }
    }

    private void paid() {
        int b = upTo(4);
        int p = page();
        int c = col();
        int l = line();
        int w = 1 + upTo(2);
        int h = 1 + upTo(2);
        int price = upTo(1002);
        same("paid", x.paid(b, p, c, l, w, h, price), m.paid(b, p, c, l, w, h, price), b, p, c, l, w, h, price);
    }

    private void act() {
        int kind = draw.nextInt(44);
        if (kind < 26) {
            put();
        } else if (kind < 30) {
            int a = item();
            same("lift", x.lift(a), m.lift(a), a);
        } else if (kind < 33) {
            int p = page();
            int c = col();
            int l = line();
            same("rule", x.rule(p, c, l) ? 1 : 0, m.rule(p, c, l), p, c, l);
        } else if (kind < 35) {
            fill(page());
        } else if (kind < 39) {
            same("undo", x.undo(), m.undo());
        } else if (kind < 42) {
            close(page());
        } else {
            plate(page());
        }
    }

    private void fill(int p) {
        int came = x.fill(p);
        SEEN[0] += came > 1 ? 1 : 0;
        same("fill", came, m.fill(p), p);
    }

    private void plate(int p) {
        int cells = x.plate(p);
        SEEN[1] += cells > 0 ? 1 : 0;
        same("plate", cells, m.plate(p), p);
    }

    private void put() {
        int a = draw.nextInt(3) > 0 ? item() : item(draw.nextBoolean() ? 0 : 5);
        int p = page();
        int c = col();
        int l = line();
        int kind = x.item(a, 0);
        int how = kind == 0 || kind == 4 ? 1 + upTo(3) : kind == 2 ? upTo(2) : upTo(12) / 11;
        if (kind == 3 && draw.nextInt(6) > 0) {
            // Squares stand where they were sold alone; draws would hardly ever meet that place.
            for (p = 0; p < pages; p++) {
                for (c = 0; c < columns; c++) {
                    for (l = 0; l < lines; l++) {
                        if (tryPut(a, p, c, l, 0) > 0) {
                            return;
                        }
                    }
                }
            }
            return;
        }
        int k = x.item(a, 1);
        if (kind == 0 && k > 0 && draw.nextInt(4) > 0) {
            // Behind the last piece: right below it, in the next column, or at the top of a later page.
            p = x.piece(a, k - 1, 0);
            c = x.piece(a, k - 1, 1);
            l = x.piece(a, k - 1, 2) + x.piece(a, k - 1, 4) + draw.nextInt(2);
            if (draw.nextInt(3) > 0) {
                boolean turns = draw.nextBoolean();
                p += turns ? 1 : 0;
                c = turns ? draw.nextInt(columns) : c + 1;
                l = draw.nextInt(2);
            }
        }
        int n = tryPut(a, p, c, l, how);
        SEEN[2] += kind == 5 && n > 0 ? 1 : 0;
        SEEN[3] += kind == 0 && n > 3 ? 1 : 0;
    }

    private int tryPut(int a, int p, int c, int l, int how) {
        int n = x.put(a, p, c, l, how);
        int want = m.put(a, p, c, l, how);
        if (n != -1 || want != -1 || x.item(a, 0) != 3) {
            same("put", n, want, a, p, c, l, how);
        }
        return n;
    }

    /** Rules on all that is empty on a page, now and then, so that it can be plated. */
    private void close(int p) {
        if (draw.nextBoolean()) {
            fill(p);
        }
        for (int c = 0; c < columns; c++) {
            for (int l = 0; l < lines && l < 8; l++) {
                if (x.cell(p, c, l) == -2) {
                    same("rule", x.rule(p, c, l) ? 1 : 0, m.rule(p, c, l), p, c, l);
                }
            }
        }
        plate(p);
    }

    private void turn() {
        int kind = draw.nextInt(20);
        if (kind < 9) {
            same("edition", x.edition(), m.edition());
        } else if (kind < 15 && !oneDay) {
            same("day", x.day(), m.day());
        } else if (kind < 18) {
            int p = page();
            int c = col();
            int n = draw.nextInt(lines + 1);
            same("column", x.column(p, c, n) ? 1 : 0, m.column(p, c, n), p, c, n);
        } else {
            int p = page();
            int n = 90 + upTo(20);
            same("measure", x.measure(p, n) ? 1 : 0, m.measure(p, n), p, n);
        }
    }

    private void ask() {
        for (int p = 0; p < pages; p++) {
            askPage(p);
        }
        askPage(page());
        int count = x.about(2);
        for (int i = 0; i <= count; i++) {
            askItem(i);
        }
        askItem(item());
        for (int b = 0; b < 4; b++) {
            int d = upTo(x.about(0) + 2);
            same("bill", x.bill(b, d), m.bill(b, d), b, d);
            int owed = x.bill(b, x.about(0));
            SEEN[4] += owed > 0 ? 1 : 0;
            same("bill", owed, m.bill(b, m.about(0)), b, m.about(0));
        }
        for (int what = -1; what < 6; what++) {
            same("about", x.about(what), m.about(what), what);
        }
        SEEN[11] += x.about(3) == 300 ? 1 : 0;
    }

    private void askPage(int p) {
        for (int what = -1; what < 4; what++) {
            int got = x.broken(p, what);
            if (what == 0 && got > 0) {
                SEEN[4 + got]++;
            }
            same("broken", got, m.broken(p, what), p, what);
            same("plateOf", x.plateOf(p, what), m.plateOf(p, what), p, what);
        }
        for (int c = 0; c <= columns; c++) {
            same("shortOf", x.shortOf(p, c), m.shortOf(p, c), p, c);
            for (int l = -1; l < lines + 1; l += 1 + draw.nextInt(3)) {
                same("cell", x.cell(p, c, l), m.cell(p, c, l), p, c, l);
                same("plated", x.plated(p, c, l), m.plated(p, c, l), p, c, l);
            }
        }
    }

    private void askItem(int i) {
        for (int what = -1; what < 7; what++) {
            same("item", x.item(i, what), m.item(i, what), i, what);
            same("printed", x.printed(i, what), m.printed(i, what), i, what);
        }
        for (int k = 0; k < 7; k++) {
            for (int what = 0; what < 8; what++) {
                same("piece", x.piece(i, k, what), m.piece(i, k, what), i, k, what);
            }
        }
        SEEN[10] += x.piece(i, 2, 0) > x.piece(i, 1, 0) && x.piece(i, 1, 0) > x.piece(i, 0, 0) ? 1 : 0;
    }
}
