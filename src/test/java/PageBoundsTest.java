/** The boundaries of promises 1 to 3: a new desk, columns and measures. */
public final class PageBoundsTest {
    public static void main(String[] args) {
        newDeskHasNothing();
        newDeskAnswersEveryCall();
        newDeskMeasuresAHundred();
        desksAreApart();
        columnNumbers();
        columnLines();
        columnIsRefused();
        columnWaitsForActs();
        measureNumbers();
        measureIsRefused();
        measureWaitsForActs();
        Due.end();
    }

    private static void newDeskHasNothing() {
        PageOne x = new PageOne();
        Due.are("1: about", Make.about(x), 0, 0, 0, 0, 0);
        for (int page = 0; page < 12; page++) {
            for (int column = 0; column < 8; column++) {
                Due.is("1: no column has lines", x.shortOf(page, column), 0);
                Due.is("1: there is no cell", x.cell(page, column, 0), -1);
                Due.is("1: nothing was plated", x.plated(page, column, 0), -1);
            }
        }
        PageOne y = new PageOne();
        for (int item = 0; item < 80; item++) {
            Due.is("1: there is no item", y.item(item, 0), -1);
            Due.is("1: it has no piece", y.piece(item, 0, 0), -1);
            Due.is("1: it wasn't printed", y.printed(item, 0), -1);
            Due.is("1: it can't be lifted", y.lift(item), -1);
            Due.is("1: it can't be put", y.put(item, 0, 0, 0, 0), -1);
        }
    }

    private static void newDeskAnswersEveryCall() {
        PageOne x = new PageOne();
        for (int page = 0; page < 12; page++) {
            Due.are("1: nothing is broken", Make.broken(x, page), 0, -1, -1);
            Due.is("1: no plate's day", x.plateOf(page, 0), -1);
            Due.is("1: no plate's edition", x.plateOf(page, 1), -1);
            Due.is("1: a page without columns is not plated", x.plate(page), -1);
            Due.is("1: it gets no fillers", x.fill(page), 0);
            Due.no("1: nor a rule", x.rule(page, 0, 0));
        }
        for (int buyer = 0; buyer < 10; buyer++) {
            Due.is("1: nothing is owed", x.bill(buyer, 0), 0);
            Due.is("1: day 1 is not there yet", x.bill(buyer, 1), -1);
        }
        Due.is("1: no act", x.undo(), -1);
        Due.is("1: no story", x.line(0, 1), -1);
        Due.is("1: no story to head", x.head(0, 1, 1), -1);
        Due.is("1: no picture", x.size(0, 1, 1), -1);
        Due.is("1: nothing to mend", x.notice(0, 1), -1);
        Due.no("1: no story to name a buyer", x.names(0, 0));
        Due.are("1: all of it changed nothing", Make.about(x), 0, 0, 0, 0, 0);
        Due.is("1: edition 0 was at hand", x.edition(), 1);
        Due.is("1: day 0 was at hand", x.day(), 1);
        Due.is("1: item 0 is the first", x.story(1), 0);
    }

    private static void newDeskMeasuresAHundred() {
        PageOne x = new PageOne();
        int fits = x.story(1);
        int wide = x.story(1);
        x.line(fits, 100);
        x.line(wide, 101);
        for (int page = 0; page < 12; page++) {
            x.column(page, 0, 1);
        }
        for (int page = 0; page < 12; page++) {
            Due.is("1: 101 is too wide on page " + page, x.put(wide, page, 0, 0, 1), -1);
            Due.is("1: 100 is not on page " + page, x.put(fits, page, 0, 0, 1), 1);
            x.lift(fits);
        }
    }

    private static void desksAreApart() {
        PageOne x = Desks.busy();
        PageOne y = new PageOne();
        Due.are("1: another desk's work is not seen", Make.about(y), 0, 0, 0, 0, 0);
        Due.is("1: nor are its columns", y.shortOf(0, 1), 0);
        Due.is("1: nor its plates", y.plateOf(11, 0), -1);
        y.day();
        Due.are("1: nor does it see this one's", Make.about(x), 1, 1, 7, 7, 0);
    }

    private static void columnNumbers() {
        Bounds.are("2: page", 0, 11, p -> {
            PageOne x = new PageOne();
            return x.column(p, 3, 5) && x.shortOf(p, 3) == 5;
        });
        Bounds.are("2: column", 0, 7, c -> {
            PageOne x = new PageOne();
            return x.column(3, c, 5) && x.shortOf(3, c) == 5;
        });
        Bounds.are("2: lines", 0, 60, n -> {
            PageOne x = new PageOne();
            return x.column(3, 3, n) && x.shortOf(3, 3) == n;
        });
    }

    private static void columnLines() {
        PageOne x = new PageOne();
        for (int lines : new int[] {60, 1, 59, 0, 2}) {
            Due.yes("2: so many lines, whatever it had", x.column(11, 7, lines));
            Due.is("2: all are empty", x.shortOf(11, 7), lines);
            Due.is("2: the last is there", x.cell(11, 7, lines - 1), lines == 0 ? -1 : -2);
            Due.is("2: none behind it", x.cell(11, 7, lines), -1);
        }
        Due.yes("2: the same once more", x.column(11, 7, 2));
        Due.is("2: its neighbour has none", x.shortOf(11, 6), 0);
        Due.is("2: the page before has none", x.shortOf(10, 7), 0);
        Due.is("2: it is no act", x.about(3), 0);
        x.rule(11, 7, 0);
        x.rule(11, 7, 1);
        Due.is("2: it is a page with columns", x.plate(11), 2);
        x.day();
        Due.yes("2: its only column goes", x.column(11, 7, 0));
        Due.is("2: a page of no lines has no columns", x.plate(11), -1);
        Due.is("2: its plate stays as it was", x.plated(11, 7, 1), 100);
    }

    private static void columnIsRefused() {
        for (int page : Bounds.beyond(0, 11)) {
            Twins.no("2: page " + page, Desks::morning, x -> x.column(page, 0, 3));
        }
        for (int column : Bounds.beyond(0, 7)) {
            Twins.no("2: column " + column, Desks::morning, x -> x.column(1, column, 3));
        }
        for (int lines : Bounds.beyond(0, 60)) {
            Twins.no("2: lines " + lines, Desks::morning, x -> x.column(1, 1, lines));
        }
        Twins.no("2: an act is kept", Desks::busy, x -> x.column(2, 0, 3));
        Twins.no("2: an act is kept, a new column", Desks::busy, x -> x.column(5, 5, 5));
        Twins.no("2: an act is kept, the same lines", Desks::busy, x -> x.column(2, 0, 4));
        Twins.no("2: 300 acts are kept", () -> Desks.withActs(300), x -> x.column(2, 0, 3));
    }

    private static void columnWaitsForActs() {
        PageOne x = Make.desk(2, 2);
        int f = x.filler(2, 2);
        Due.is("2: a fill that brings none", x.fill(1), 0);
        Due.yes("2: is no act", x.column(0, 2, 2));
        x.put(f, 0, 0, 0, 2);
        Due.no("2: a put", x.column(0, 2, 3));
        x.lift(f);
        Due.no("2: put and lifted: two acts, though nothing stands", x.column(0, 2, 3));
        x.undo();
        Due.no("2: one is left", x.column(0, 2, 3));
        x.undo();
        Due.yes("2: none is left", x.column(0, 2, 3));
        x.rule(0, 0, 0);
        Due.no("2: a rule", x.column(0, 2, 4));
        x.undo();
        x.fill(0);
        Due.no("2: a fill", x.column(0, 2, 4));
        x.edition();
        Due.no("2: an edition keeps it", x.column(0, 2, 4));
        Due.is("2: none of these changed it", x.shortOf(0, 2), 3);
        x.day();
        Due.yes("2: no act of the day before is kept", x.column(0, 2, 4));
        Due.is("2: four", x.shortOf(0, 2), 4);
    }

    private static boolean measures(int page, int m) {
        PageOne x = new PageOne();
        if (!x.measure(page, m)) {
            return false;
        }
        x.column(page, 0, 2);
        int s = x.story(1);
        int t = x.story(1);
        x.line(s, m);
        boolean wider = x.line(t, m + 1) == 1 && x.put(t, page, 0, 1, 1) != -1;
        return x.put(s, page, 0, 0, 1) == 1 && !wider;
    }

    private static void measureNumbers() {
        Bounds.are("3: page", 0, 11, p -> measures(p, 70));
        Bounds.are("3: measure", 1, 200, m -> measures(5, m));
        PageOne x = new PageOne();
        x.column(4, 0, 1);
        x.column(6, 0, 1);
        Due.yes("3: page 5 alone", x.measure(5, 200));
        int s = x.story(1);
        x.line(s, 101);
        Due.is("3: not page 4", x.put(s, 4, 0, 0, 1), -1);
        Due.is("3: nor page 6", x.put(s, 6, 0, 0, 1), -1);
    }

    private static void measureIsRefused() {
        for (int page : Bounds.beyond(0, 11)) {
            Twins.no("3: page " + page, Desks::morning, x -> x.measure(page, 70));
        }
        for (int m : Bounds.beyond(1, 200)) {
            Twins.no("3: measure " + m, Desks::morning, x -> x.measure(1, m));
        }
        Twins.no("3: an act is kept", Desks::busy, x -> x.measure(1, 70));
        Twins.no("3: an act is kept, a page where nothing stands", Desks::busy, x -> x.measure(7, 70));
        Twins.no("3: 300 acts are kept", () -> Desks.withActs(300), x -> x.measure(1, 70));
    }

    private static void measureWaitsForActs() {
        PageOne x = Make.desk(2);
        Due.yes("3: none is kept", x.measure(0, 20));
        x.rule(0, 0, 0);
        Due.no("3: a rule", x.measure(0, 30));
        x.undo();
        Due.yes("3: none again", x.measure(0, 30));
        int s = x.story(1);
        x.line(s, 30);
        x.put(s, 0, 0, 0, 1);
        x.lift(s);
        Due.no("3: put and lifted: two acts", x.measure(0, 29));
        Due.is("3: 30 holds", x.put(s, 0, 0, 0, 1), 1);
        x.edition();
        Due.no("3: an edition keeps them", x.measure(0, 29));
        x.day();
        Due.yes("3: the next day", x.measure(0, 29));
        Due.is("3: 29 holds", x.put(s, 0, 0, 0, 1), -1);
        x.day();
        Due.is("3: and stays on the day behind", x.put(s, 0, 0, 0, 1), -1);
    }
}
