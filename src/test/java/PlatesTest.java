/** Promises 19 to 21 and 27 to 31: plates, editions, days, what was printed and what is owed. */
public final class PlatesTest {
    public static void main(String[] args) {
        plates();
        everyCellCounts();
        brokenPagesAreNotPlated();
        editions();
        days();
        fourHundredDays();
        printedFirst();
        printedInPageOrder();
        printedOnceMore();
        printedWhereThePageHasIt();
        platedCells();
        platesOf();
        bills();
        billsOfReplacedPlates();
        about();
        Due.end();
    }

    private static void plates() {
        PageOne x = Make.desk(2, 0, 3);
        Due.is("19: page -1", x.plate(-1), -1);
        Due.is("19: page 12", x.plate(12), -1);
        Due.is("19: a page without columns", x.plate(1), -1);
        Due.is("19: all is empty", x.plate(0), -1);
        int f = x.filler(2, 2);
        x.put(f, 0, 2, 0, 2);
        x.rule(0, 0, 0);
        x.rule(0, 0, 1);
        Due.is("19: one cell is empty", x.plate(0), -1);
        Due.is("19: no plate", x.about(4), 0);
        Due.is("19: not printed", x.printed(f, 0), -1);
        x.rule(0, 2, 2);
        Due.is("19: five cells", x.plate(0), 5);
        Due.is("19: once more", x.plate(0), 5);
        Due.is("19: one page", x.about(4), 1);
        Due.is("19: no act", x.about(3), 4);
    }

    private static void everyCellCounts() {
        PageOne x = Make.desk(2, 2);
        x.rule(0, 1, 0);
        x.rule(0, 1, 1);
        x.rule(0, 0, 0);
        Due.is("19: column 0 alone is short", x.plate(0), -1);
        x.rule(0, 0, 1);
        Due.is("19: all four", x.plate(0), 4);

        PageOne y = Make.desk(60, 60, 60, 60, 60, 60, 60, 60);
        int p = y.picture();
        y.size(p, 8, 59);
        int f = y.picture();
        y.size(f, 8, 1);
        y.put(p, 0, 0, 0, 0);
        Due.is("19: the last line is empty", y.plate(0), -1);
        y.put(f, 0, 0, 59, 0);
        Due.is("19: a whole page", y.plate(0), 480);
        Due.is("28: its last cell but one", y.plated(0, 7, 58), p);
        Due.is("28: its last cell", y.plated(0, 7, 59), f);
        Due.are("27: in its last line", Make.printed(y, f), 0, 0, 0, 0, 59);
    }

    private static void brokenPagesAreNotPlated() {
        PageOne x = Make.desk(1, 1);
        int s = Make.story(x, 2, 2);
        x.put(s, 0, 0, 0, 1);
        x.rule(0, 1, 0);
        Due.is("19: the story is too short", x.plate(0), -1);
        x.undo();
        x.put(s, 0, 1, 0, 1);
        Due.is("19: it is long enough", x.plate(0), 2);
        x.undo();
        x.rule(0, 1, 0);
        Due.is("19: too short again", x.plate(0), -1);
        Due.is("19: the plate before stays", x.plated(0, 1, 0), s);
        Due.is("19: and counts", x.about(4), 1);
    }

    private static void editions() {
        PageOne x = Make.desk(1);
        x.rule(0, 0, 0);
        for (int e = 1; e <= 7; e++) {
            Due.is("20: edition " + e, x.edition(), e);
            Due.is("20: about", x.about(1), e);
        }
        Due.is("20: none behind 7", x.edition(), -1);
        Due.is("20: 7 stays", x.about(1), 7);
        Due.is("20: all stays on the pages", x.cell(0, 0, 0), 100);
        Due.is("20: the acts are kept", x.about(3), 1);
        x.plate(0);
        Due.is("20: none behind 7", x.edition(), -1);
        Due.is("20: the plate is of the one at hand", x.about(4), 1);
        Due.is("21: the next day", x.day(), 1);
        Due.is("21: edition 0", x.about(1), 0);
        Due.is("21: no plate yet", x.about(4), 0);
        Due.is("20: from 0 on", x.edition(), 1);
    }

    private static void days() {
        PageOne x = Make.desk(3, 3);
        Make.columns(x, 11, 3);
        x.measure(0, 11);
        int s = Make.story(x, 1, 4);
        int f = x.filler(1, 3);
        x.put(s, 0, 0, 0, 2);
        x.put(s, 0, 1, 0, 1);
        x.put(f, 11, 0, 0, 2);
        x.rule(11, 0, 2);
        Due.is("21: the next day", x.day(), 1);
        Due.is("21: about", x.about(0), 1);
        Due.is("21: no acts", x.about(3), 0);
        Due.is("21: nothing stands", x.shortOf(0, 0) + x.shortOf(0, 1) + x.shortOf(11, 0), 9);
        Due.is("21: the story has no pieces", x.item(s, 1), 0);
        Due.is("21: its lines stay", x.item(s, 2), 4);
        Due.is("21: the items stay", x.about(2), 2);
        x.line(s, 12);
        Due.is("21: the measure stays", x.put(s, 0, 0, 0, 3), 1);
        Due.is("21: 12 is wider than 11", x.put(s, 0, 1, 0, 2), -1);
        Due.is("21: the filler comes again", x.put(f, 11, 0, 0, 3), 1);
    }

    private static void fourHundredDays() {
        PageOne x = Make.desk(1);
        int p = x.paid(3, 0, 0, 0, 1, 1, 9);
        for (int d = 1; d <= 399; d++) {
            Due.is("21: day " + d, x.day(), d);
        }
        x.put(p, 0, 0, 0, 0);
        x.plate(0);
        Due.is("21: none behind 399", x.day(), -1);
        Due.is("21: 399 stays", x.about(0), 399);
        Due.is("21: all stays on the pages", x.cell(0, 0, 0), p);
        Due.is("21: the act is kept", x.about(3), 1);
        Due.is("30: the last day", x.bill(3, 399), 9);
        Due.is("20: its next edition", x.edition(), 1);
        Due.is("30: the last day still", x.bill(3, 399), 9);
        Due.is("30: the day before", x.bill(3, 398), 0);
        Due.is("30: day 400", x.bill(3, 400), -1);
        Due.are("27: the last day", Make.printed(x, p), 399, 0, 0, 0, 0);
    }

    private static void printedFirst() {
        PageOne x = Make.desk(3, 3);
        int f = x.filler(1, 1);
        int p = x.picture();
        x.size(p, 2, 2);
        Due.are("27: it doesn't stand", Make.printed(x, f), -1, -1, -1, -1, -1);
        x.day();
        x.edition();
        x.edition();
        x.put(f, 0, 1, 0, 1);
        x.put(p, 0, 0, 1, 0);
        Make.ruleRest(x, 0);
        Due.are("27: it isn't plated", Make.printed(x, f), -1, -1, -1, -1, -1);
        x.plate(0);
        Due.are("27: the filler", Make.printed(x, f), 1, 2, 0, 1, 0);
        Due.are("27: the picture", Make.printed(x, p), 1, 2, 0, 0, 1);
        x.edition();
        x.plate(0);
        Due.are("27: the edition behind changes nothing", Make.printed(x, p), 1, 2, 0, 0, 1);
        x.day();
        x.put(f, 0, 0, 0, 1);
        Make.ruleRest(x, 0);
        x.plate(0);
        x.day();
        Due.are("27: nor the day behind", Make.printed(x, f), 1, 2, 0, 1, 0);
        Due.is("27: what -1", x.printed(f, -1), -1);
        Due.is("27: what 5", x.printed(f, 5), -1);
        Due.is("27: item -1", x.printed(-1, 0), -1);
        Due.is("27: item 2", x.printed(2, 0), -1);
        Due.is("27: a rule is no item", x.printed(100, 0), -1);
    }

    private static void printedInPageOrder() {
        PageOne x = new PageOne();
        Make.columns(x, 3, 2);
        Make.columns(x, 5, 4);
        int s = Make.story(x, 1, 9);
        x.put(s, 3, 0, 0, 2);
        x.put(s, 5, 0, 1, 3);
        x.rule(5, 0, 0);
        Due.is("19: page 5", x.plate(5), 4);
        Due.are("27: page 5 alone", Make.printed(x, s), 0, 0, 5, 0, 1);
        Due.is("19: page 3", x.plate(3), 2);
        Due.are("27: page 3 is the earlier", Make.printed(x, s), 0, 0, 3, 0, 0);
        x.edition();
        Due.are("27: also behind the edition", Make.printed(x, s), 0, 0, 3, 0, 0);

        PageOne y = new PageOne();
        Make.columns(y, 3, 2);
        Make.columns(y, 5, 4);
        int t = Make.story(y, 1, 9);
        y.put(t, 3, 0, 0, 2);
        y.put(t, 5, 0, 1, 3);
        y.rule(5, 0, 0);
        y.plate(5);
        y.edition();
        y.plate(3);
        Due.are("27: the earlier edition goes before the page", Make.printed(y, t), 0, 0, 5, 0, 1);
    }

    private static void printedOnceMore() {
        PageOne x = Make.desk(2);
        int f = x.filler(1, 1);
        x.put(f, 0, 0, 0, 1);
        x.rule(0, 0, 1);
        x.plate(0);
        x.lift(f);
        Due.is("27: a lift doesn't change the plate", x.printed(f, 0), 0);
        x.undo();
        x.undo();
        x.undo();
        x.rule(0, 0, 0);
        x.put(f, 0, 0, 1, 1);
        x.plate(0);
        Due.are("27: the second plate alone counts", Make.printed(x, f), 0, 0, 0, 0, 1);
        x.lift(f);
        x.rule(0, 0, 1);
        x.plate(0);
        Due.are("27: it isn't printed any more", Make.printed(x, f), -1, -1, -1, -1, -1);
        Due.is("11: so no notice", x.notice(f, 1), -1);
        x.undo();
        x.undo();
        x.edition();
        x.plate(0);
        Due.are("27: the next edition prints it", Make.printed(x, f), 0, 1, 0, 0, 1);
        x.edition();
        x.lift(f);
        x.rule(0, 0, 1);
        x.plate(0);
        Due.are("27: a later edition takes nothing away", Make.printed(x, f), 0, 1, 0, 0, 1);
    }

    private static void printedWhereThePageHasIt() {
        PageOne x = Make.desk(4, 4);
        int s = Make.story(x, 1, 9);
        x.put(s, 0, 0, 3, 1);
        x.put(s, 0, 1, 0, 2);
        Make.ruleRest(x, 0);
        x.plate(0);
        Due.are("27: the first piece, though it stands lower", Make.printed(x, s), 0, 0, 0, 0, 3);
        x.day();
        Due.are("27: the same on the next day", Make.printed(x, s), 0, 0, 0, 0, 3);
    }

    private static void platedCells() {
        PageOne x = Make.desk(2, 1);
        int f = x.filler(2, 2);
        x.put(f, 0, 0, 0, 2);
        x.rule(0, 1, 0);
        Due.is("28: never", x.plated(0, 0, 0), -1);
        x.plate(0);
        Due.is("28: the filler", x.plated(0, 0, 1), f);
        Due.is("28: the rule", x.plated(0, 1, 0), 100);
        Due.is("28: no such line", x.plated(0, 1, 1), -1);
        Due.is("28: no such column", x.plated(0, 2, 0), -1);
        Due.is("28: column 8", x.plated(0, 8, 0), -1);
        Due.is("28: column -1", x.plated(0, -1, 0), -1);
        Due.is("28: line -1", x.plated(0, 0, -1), -1);
        Due.is("28: page -1", x.plated(-1, 0, 0), -1);
        Due.is("28: page 12", x.plated(12, 0, 0), -1);
        Due.is("28: another page", x.plated(1, 0, 0), -1);
        x.day();
        x.column(0, 0, 1);
        x.column(0, 1, 4);
        Due.is("28: as it was", x.plated(0, 0, 1), f);
        Due.is("28: not as it is", x.plated(0, 1, 3), -1);
        Make.ruleRest(x, 0);
        Due.is("28: still as it was", x.plated(0, 0, 0), f);
        x.plate(0);
        Due.is("28: the latest plate", x.plated(0, 0, 0), 100);
        Due.is("28: it has no such cell", x.plated(0, 0, 1), -1);
        Due.is("28: but this one", x.plated(0, 1, 3), 100);
    }

    private static void platesOf() {
        PageOne x = Make.desk(1);
        x.rule(0, 0, 0);
        Due.is("29: never", x.plateOf(0, 0), -1);
        x.edition();
        x.plate(0);
        x.edition();
        Due.is("29: the day", x.plateOf(0, 0), 0);
        Due.is("29: the edition", x.plateOf(0, 1), 1);
        x.plate(0);
        Due.is("29: the later edition", x.plateOf(0, 1), 2);
        x.day();
        x.day();
        Due.is("29: the day stays", x.plateOf(0, 0), 0);
        x.rule(0, 0, 0);
        x.plate(0);
        Due.is("29: the later day", x.plateOf(0, 0), 2);
        Due.is("29: its edition", x.plateOf(0, 1), 0);
        Due.is("29: what 2", x.plateOf(0, 2), -1);
        Due.is("29: what -1", x.plateOf(0, -1), -1);
        Due.is("29: page 1", x.plateOf(1, 0), -1);
        Due.is("29: page -1", x.plateOf(-1, 0), -1);
        Due.is("29: page 12", x.plateOf(12, 0), -1);
    }

    private static void bills() {
        PageOne x = Make.desk(3, 3);
        Make.columns(x, 1, 1);
        int big = x.paid(7, 0, 0, 0, 2, 2, 100);
        int small = x.paid(7, 0, 0, 2, 1, 1, 7);
        int other = x.paid(6, 0, 1, 2, 1, 1, 1000);
        int away = x.paid(7, 1, 0, 0, 1, 1, 3);
        x.put(big, 0, 0, 0, 0);
        x.put(small, 0, 0, 2, 0);
        x.put(other, 0, 1, 2, 0);
        Due.is("30: nothing was printed", x.bill(7, 0), 0);
        x.plate(0);
        Due.is("30: two squares", x.bill(7, 0), 407);
        Due.is("30: the other's", x.bill(6, 0), 1000);
        Due.is("30: none's", x.bill(5, 0), 0);
        x.put(away, 1, 0, 0, 0);
        x.plate(1);
        Due.is("30: three squares on two pages", x.bill(7, 0), 410);
        x.edition();
        x.plate(0);
        Due.is("30: once a day", x.bill(7, 0), 410);
        x.edition();
        Due.is("30: once a day still", x.bill(7, 0), 410);
        x.day();
        Due.is("30: the day before", x.bill(7, 0), 410);
        Due.is("30: nothing yet", x.bill(7, 1), 0);
        x.put(away, 1, 0, 0, 0);
        x.plate(1);
        Due.is("30: the second day", x.bill(7, 1), 3);
        Due.is("30: buyer -1", x.bill(-1, 0), -1);
        Due.is("30: buyer 10", x.bill(10, 0), -1);
        Due.is("30: day -1", x.bill(7, -1), -1);
        Due.is("30: day 2", x.bill(7, 2), -1);
    }

    private static void billsOfReplacedPlates() {
        PageOne x = Make.desk(1);
        int p = x.paid(1, 0, 0, 0, 1, 1, 50);
        x.put(p, 0, 0, 0, 0);
        x.plate(0);
        x.undo();
        x.rule(0, 0, 0);
        Due.is("30: as it was plated", x.bill(1, 0), 50);
        x.plate(0);
        Due.is("30: the second plate alone counts", x.bill(1, 0), 0);
        x.edition();
        x.undo();
        x.put(p, 0, 0, 0, 0);
        x.plate(0);
        Due.is("30: the next edition prints it", x.bill(1, 0), 50);
        x.edition();
        x.undo();
        x.rule(0, 0, 0);
        x.plate(0);
        Due.is("30: a later edition takes nothing away", x.bill(1, 0), 50);
    }

    private static void about() {
        PageOne x = Make.desk(1);
        Make.columns(x, 4, 1);
        x.filler(1, 1);
        x.picture();
        x.day();
        x.edition();
        x.fill(4);
        x.rule(0, 0, 0);
        x.plate(4);
        x.plate(0);
        Due.are("31: about", Make.about(x), 1, 1, 2, 2, 2);
        x.edition();
        x.plate(4);
        Due.are("31: the next edition", Make.about(x), 1, 2, 2, 2, 1);
        Due.is("31: what -1", x.about(-1), -1);
        Due.is("31: what 5", x.about(5), -1);
        // The same edition's number on the next day is another edition.
        x.day();
        x.edition();
        x.edition();
        Due.are("31: the next day", Make.about(x), 2, 2, 2, 0, 0);
    }
}
