import java.util.function.Supplier;

/** The boundaries of promises 19 to 21 and 27 to 31 and of part III: plates, editions, days, printings, bills. */
public final class PlateBoundsTest {
    public static void main(String[] args) {
        plateNumbers();
        plateCells();
        plateWantsEveryCell();
        plateWantsNothingBroken();
        plateOnceMore();
        aRefusedPlateLeavesTheOneBefore();
        eightEditions();
        editionsOfEachDay();
        fourHundredDays();
        theDaysEnd();
        printedNumbers();
        printedAtTheLastPlace();
        printedFirstByDayEditionPage();
        printedByThePieceOfThePage();
        printedNoMore();
        platedNumbers();
        platedLast();
        plateOfNumbers();
        billNumbers();
        billOfNothing();
        billOnce();
        billOfReplacedPlates();
        billOfEightySquares();
        aboutNumbers();
        aboutTwelvePlates();
        Due.end();
    }

    /** A desk whose pages have one line each, with a rule on it. */
    private static PageOne ruled() {
        PageOne x = new PageOne();
        for (int page = 0; page < 12; page++) {
            x.column(page, 7, 1);
        }
        for (int page = 0; page < 12; page++) {
            x.rule(page, 7, 0);
        }
        return x;
    }

    private static void plateNumbers() {
        Bounds.are("19: page", 0, 11, p -> {
            PageOne x = ruled();
            return x.plate(p) == 1 && x.plateOf(p, 0) == 0 && x.about(4) == 1;
        });
        for (int page : Bounds.beyond(0, 11)) {
            Twins.none("19: page " + page, Desks::busy, x -> x.plate(page));
            Twins.none("19: page " + page + " of ruled ones", PlateBoundsTest::ruled, x -> x.plate(page));
        }
        Twins.none("19: a page without columns", Desks::busy, x -> x.plate(7));
        Twins.none("19: a page whose columns are empty", Desks::busy, x -> x.plate(2));
        Twins.none("19: a new desk", Desks::fresh, x -> x.plate(0));
    }

    private static void plateCells() {
        PageOne x = Make.desk(1);
        x.rule(0, 0, 0);
        Due.is("19: one cell", x.plate(0), 1);
        PageOne y = Make.desk(60, 60, 60, 60, 60, 60, 60, 60);
        int p = y.picture();
        y.size(p, 8, 60);
        y.put(p, 0, 0, 0, 0);
        Due.is("19: all cells that a page may have", y.plate(0), 480);
        PageOne z = Make.desk(0, 0, 2, 0, 0, 0, 0, 1);
        z.rule(0, 2, 0);
        z.rule(0, 2, 1);
        z.rule(0, 7, 0);
        Due.is("19: columns of no lines have no cells", z.plate(0), 3);
        Due.is("19: it is no act", z.about(3), 3);
        z.day();
        z.column(0, 2, 0);
        z.column(0, 7, 0);
        Due.is("19: no column has lines any more", z.plate(0), -1);
        Due.is("29: the plate before stays", z.plateOf(0, 0), 0);
    }

    private static void plateWantsEveryCell() {
        int[] lines = {2, 0, 3, 1};
        for (int column = 0; column < 4; column++) {
            for (int line = 0; line < lines[column]; line++) {
                PageOne x = Make.desk(lines);
                Make.ruleRest(x, 0);
                PageOne y = Make.desk(lines);
                for (int c = 0; c < 4; c++) {
                    for (int l = 0; l < lines[c]; l++) {
                        if (c != column || l != line) {
                            y.rule(0, c, l);
                        }
                    }
                }
                Due.is("19: all six", x.plate(0), 6);
                Due.is("19: but " + column + " " + line, y.plate(0), -1);
                Due.is("19: no plate came", y.plateOf(0, 0), -1);
            }
        }
    }

    /** A full page of two columns on which one of the five is broken. */
    private static PageOne fullAndBroken(int kind) {
        PageOne x = Make.desk(2, 2);
        int s = Make.story(x, kind == 4 ? 3 : 1, 4);
        int left = x.head(s, 1, 1);
        int right = x.head(s, 1, 1);
        int p = x.paid(0, 0, 0, 0, 1, 1, 1);
        int q = x.paid(1, 0, 1, 0, 1, 1, 1);
        x.rival(0, 1);
        x.names(s, 0);
        if (kind == 1) {
            x.put(p, 0, 0, 0, 0);
            x.put(q, 0, 1, 0, 0);
        } else if (kind == 2) {
            x.put(p, 0, 0, 0, 0);
            x.put(s, 0, 1, 0, 1);
        } else if (kind == 3) {
            x.put(left, 0, 0, 0, 0);
            x.put(right, 0, 1, 0, 0);
            x.put(s, 0, 0, 1, 1);
            x.put(s, 0, 1, 1, 1);
        } else if (kind == 4) {
            x.put(s, 0, 0, 0, 2);
        } else if (kind == 5) {
            x.put(left, 0, 0, 0, 0);
        }
        Make.ruleRest(x, 0);
        return x;
    }

    private static void plateWantsNothingBroken() {
        Due.is("19: nothing is broken", fullAndBroken(0).plate(0), 4);
        for (int kind = 1; kind <= 5; kind++) {
            int k = kind;
            Due.is("26: broken", fullAndBroken(k).broken(0, 0), k);
            Due.is("25: full", fullAndBroken(k).shortOf(0, 0) + fullAndBroken(k).shortOf(0, 1), 0);
            Twins.none("19: broken " + k, () -> fullAndBroken(k), x -> x.plate(0));
        }
        PageOne x = Make.desk(1, 1);
        Make.columns(x, 1, 1);
        int s = Make.story(x, 2, 2);
        x.put(s, 0, 0, 0, 1);
        x.rule(0, 1, 0);
        x.rule(1, 0, 0);
        Due.is("19: another page's break is its own", x.plate(1), 1);
        Due.is("19: this one is broken", x.plate(0), -1);
    }

    private static void plateOnceMore() {
        PageOne x = Make.desk(2);
        int f = x.filler(1, 2);
        int g = x.filler(1, 1);
        x.put(f, 0, 0, 0, 1);
        x.put(g, 0, 0, 1, 1);
        x.plate(0);
        x.lift(g);
        x.rule(0, 0, 1);
        Due.is("III: once more in the same edition", x.plate(0), 2);
        Due.is("III: this alone counts", x.printed(g, 0), -1);
        Due.is("III: it still has the other", x.printed(f, 0), 0);
        Due.is("31: one page", x.about(4), 1);
        Due.is("28: the second plate", x.plated(0, 0, 1), 100);
        x.edition();
        Due.is("III: behind the edition too", x.printed(g, 0), -1);
        x.lift(f);
        x.rule(0, 0, 0);
        x.plate(0);
        Due.is("III: another edition takes nothing away", x.printed(f, 1), 0);
        x.undo();
        x.undo();
        x.plate(0);
        Due.is("III: nor does once more in that one", x.printed(f, 1), 0);
        x.day();
        Due.is("III: nor the day's end", x.printed(f, 1), 0);
    }

    private static void aRefusedPlateLeavesTheOneBefore() {
        Supplier<PageOne> made = () -> {
            PageOne x = Desks.busy();
            x.plate(11);
            x.lift(Desks.FILLER);
            return x;
        };
        Twins.none("19: an empty cell", made, x -> x.plate(11));
        PageOne x = made.get();
        x.plate(11);
        Due.is("28: the plate before", x.plated(11, 7, 1), Desks.FILLER);
        Due.is("31: it counts", x.about(4), 1);
        Due.is("27: it prints", x.printed(Desks.FILLER, 1), 0);
    }

    private static PageOne lastEdition() {
        PageOne x = Desks.busy();
        for (int e = 2; e <= 7; e++) {
            Due.is("20: edition", x.edition(), e);
        }
        x.plate(11);
        return x;
    }

    private static void eightEditions() {
        PageOne x = new PageOne();
        for (int e = 1; e <= 7; e++) {
            Due.is("20: edition " + e, x.edition(), e);
        }
        Due.is("20: 7 was the last", x.edition(), -1);
        Due.is("20: again", x.edition(), -1);
        Due.is("31: 7", x.about(1), 7);
        Twins.none("20: 7 was the last", PlateBoundsTest::lastEdition, PageOne::edition);
        PageOne y = lastEdition();
        y.edition();
        Due.is("31: the plates of the one at hand", y.about(4), 1);
        y.lift(Desks.FILLER);
        y.rule(11, 7, 1);
        Due.is("19: once more in the same one", y.plate(11), 2);
        Due.is("29: edition 7", y.plateOf(11, 1), 7);
        Due.is("27: the first edition's plate still counts", y.printed(Desks.FILLER, 1), 0);
    }

    private static void editionsOfEachDay() {
        PageOne x = Make.desk(1);
        x.rule(0, 0, 0);
        x.plate(0);
        Due.is("20: the next", x.edition(), 1);
        Due.is("20: what stands stays", x.cell(0, 0, 0), 100);
        Due.is("20: acts stay", x.about(3), 1);
        Due.is("20: no page is plated in it yet", x.about(4), 0);
        Due.is("20: the plate stays", x.plateOf(0, 1), 0);
        x.day();
        Due.is("21: edition 0 of the next day", x.about(1), 0);
        Due.is("31: no page of it is plated", x.about(4), 0);
        Due.is("20: its first", x.edition(), 1);
    }

    private static void fourHundredDays() {
        PageOne x = Make.desk(1);
        int p = x.paid(3, 0, 0, 0, 1, 1, 9);
        for (int d = 1; d <= 398; d++) {
            x.day();
        }
        Due.is("21: 399 is the last", x.day(), 399);
        x.put(p, 0, 0, 0, 0);
        x.plate(0);
        x.edition();
        x.plate(0);
        int[] before = Make.about(x);
        Due.are("31: the last day", before, 399, 1, 1, 1, 1);
        Due.is("21: none behind it", x.day(), -1);
        Due.is("21: again", x.day(), -1);
        Due.are("21: nothing changed", Make.about(x), 399, 1, 1, 1, 1);
        Due.is("21: what stands stays", x.cell(0, 0, 0), p);
        Due.is("21: its piece stays", x.item(p, 1), 1);
        Due.are("27: the last day", Make.printed(x, p), 399, 0, 0, 0, 0);
        Due.is("29: the last day", x.plateOf(0, 0), 399);
        Due.is("30: the last day", x.bill(3, 399), 9);
        Due.is("30: the day behind it", x.bill(3, 400), -1);
        Due.is("30: the day before it", x.bill(3, 398), 0);
        x.lift(p);
        x.rule(0, 0, 0);
        Due.is("19: once more in the same edition", x.plate(0), 1);
        Due.is("30: the edition before still counts", x.bill(3, 399), 9);
        Due.is("18: acts can be taken back", x.undo(), 2);
        for (int e = 2; e <= 7; e++) {
            Due.is("20: its editions", x.edition(), e);
        }
        Due.is("20: the last of all", x.edition(), -1);
        Due.is("21: and no day", x.day(), -1);
    }

    private static void theDaysEnd() {
        PageOne x = lastEdition();
        Due.is("21: the next day", x.day(), 2);
        Due.are("21: edition 0, no acts, no plates", Make.about(x), 2, 0, 7, 0, 0);
        for (int item = 0; item < Desks.ITEMS; item++) {
            Due.is("III: all pieces are lifted", x.item(item, 1), 0);
            Due.is("III: all pieces", x.piece(item, 0, 0), -1);
        }
        Due.is("III: page 0", x.shortOf(0, 0) + x.shortOf(0, 1) + x.shortOf(0, 2), 12);
        Due.is("III: page 1", x.shortOf(1, 0) + x.shortOf(1, 1), 8);
        Due.is("III: rules too", x.cell(11, 7, 0), -2);
        Due.is("III: nothing is broken", x.broken(0, 0), 0);
        Due.is("III: plates stay", x.plated(11, 7, 0), 100);
        Due.is("III: items stay", x.item(Desks.STORY, 2), 8);
        Due.no("III: rivals stay", x.rival(1, 2));
        Due.no("III: names stay", x.names(Desks.STORY, 1));
        Due.is("III: sizes stay", x.size(Desks.PICTURE, 1, 1), 3);
        Due.is("III: an empty day ends too", x.day(), 3);
    }

    private static void printedNumbers() {
        Bounds.are("27: what", 0, 4, what -> Desks.busy().printed(Desks.FILLER, what) != -1);
        Bounds.are("27: item of six that were printed", 0, 5, i -> {
            PageOne x = Make.desk(6);
            for (int line = 0; line < 6; line++) {
                x.filler(1, 1);
                x.put(line, 0, 0, line, 1);
            }
            x.plate(0);
            return x.printed(i, 0) == 0 && x.printed(i, 4) == i;
        });
        PageOne x = Desks.busy();
        Due.are("27: the filler", Make.printed(x, Desks.FILLER), 1, 0, 11, 7, 1);
        Due.are("27: the long filler", Make.printed(x, Desks.LONG_FILLER), 0, 0, 2, 0, 0);
        for (int item : new int[] {Desks.STORY, Desks.HEAD, Desks.PICTURE, Desks.PAID, Desks.NOTICE}) {
            Due.are("27: not item " + item, Make.printed(x, item), -1, -1, -1, -1, -1);
        }
        Due.are("27: a rule is no item", Make.printed(x, 100), -1, -1, -1, -1, -1);
    }

    private static void printedAtTheLastPlace() {
        PageOne x = new PageOne();
        for (int i = 0; i < 79; i++) {
            x.picture();
        }
        int f = x.filler(1, 1);
        x.column(11, 7, 60);
        int p = 0;
        x.size(p, 1, 59);
        for (int e = 1; e <= 7; e++) {
            x.edition();
        }
        x.put(p, 11, 7, 0, 0);
        x.put(f, 11, 7, 59, 1);
        x.plate(11);
        Due.are("27: edition 7, page 11, column 7, line 59, item 79", Make.printed(x, f), 0, 7, 11, 7, 59);
        Due.are("27: item 0 above it", Make.printed(x, p), 0, 7, 11, 7, 0);
        x.day();
        Due.are("27: on the next day", Make.printed(x, f), 0, 7, 11, 7, 59);
        Due.is("28: its cell", x.plated(11, 7, 59), 79);
        Due.is("11: a notice of it wants an 81st item", x.notice(f, 1), -1);
    }

    /** A story on pages 0 and 1; the pages are plated in another order than theirs. */
    private static PageOne twoPages() {
        PageOne x = Make.desk(3);
        Make.columns(x, 1, 3);
        int s = Make.story(x, 1, 9);
        x.put(s, 0, 0, 1, 2);
        x.put(s, 1, 0, 0, 3);
        x.rule(0, 0, 0);
        return x;
    }

    private static void printedFirstByDayEditionPage() {
        PageOne x = twoPages();
        x.plate(1);
        Due.are("27: page 1 alone", Make.printed(x, 0), 0, 0, 1, 0, 0);
        x.plate(0);
        Due.are("27: page 0 is the earlier one of an edition", Make.printed(x, 0), 0, 0, 0, 0, 1);
        PageOne y = twoPages();
        y.plate(1);
        y.edition();
        y.plate(0);
        Due.are("27: the earlier edition goes before the page", Make.printed(y, 0), 0, 0, 1, 0, 0);
        PageOne z = twoPages();
        z.edition();
        z.plate(1);
        z.day();
        z.put(0, 0, 0, 0, 3);
        z.plate(0);
        Due.are("27: the earlier day goes before the edition", Make.printed(z, 0), 0, 1, 1, 0, 0);
        z.day();
        Due.are("27: for good", Make.printed(z, 0), 0, 1, 1, 0, 0);
    }

    private static void printedByThePieceOfThePage() {
        PageOne x = Make.desk(3, 3);
        int s = Make.story(x, 1, 9);
        x.put(s, 0, 0, 2, 1);
        x.put(s, 0, 1, 0, 1);
        Make.ruleRest(x, 0);
        x.plate(0);
        Due.are("27: the first piece stands lower, but in an earlier column", Make.printed(x, s), 0, 0, 0, 0, 2);
        PageOne y = Make.desk(2, 2);
        int p = y.picture();
        y.size(p, 2, 1);
        y.put(p, 0, 0, 1, 0);
        Make.ruleRest(y, 0);
        y.plate(0);
        Due.are("27: a wide piece's first cell", Make.printed(y, p), 0, 0, 0, 0, 1);
        PageOne z = twoPages();
        z.plate(1);
        z.lift(0);
        z.lift(0);
        Due.are("27: as it was plated, though it was lifted", Make.printed(z, 0), 0, 0, 1, 0, 0);
    }

    private static void printedNoMore() {
        PageOne x = Make.desk(1);
        Make.columns(x, 1, 1);
        int f = x.filler(1, 1);
        x.put(f, 1, 0, 0, 1);
        x.plate(1);
        x.lift(f);
        x.put(f, 0, 0, 0, 1);
        x.plate(0);
        Due.are("27: two plates of one edition, the earlier page", Make.printed(x, f), 0, 0, 0, 0, 0);
        x.lift(f);
        x.rule(0, 0, 0);
        x.plate(0);
        Due.are("27: the other page's plate is left", Make.printed(x, f), 0, 0, 1, 0, 0);
        x.rule(1, 0, 0);
        x.plate(1);
        Due.are("27: none is left", Make.printed(x, f), -1, -1, -1, -1, -1);
        x.day();
        Due.are("27: none on the next day", Make.printed(x, f), -1, -1, -1, -1, -1);
        x.put(f, 0, 0, 0, 1);
        x.plate(0);
        Due.are("27: now it is first", Make.printed(x, f), 1, 0, 0, 0, 0);
    }

    private static PageOne plated() {
        PageOne x = new PageOne();
        for (int page = 0; page < 12; page += 11) {
            for (int column = 0; column < 8; column++) {
                x.column(page, column, 60);
            }
            x.picture();
        }
        x.size(0, 8, 60);
        x.size(1, 8, 60);
        x.put(0, 0, 0, 0, 0);
        x.put(1, 11, 0, 0, 0);
        x.plate(0);
        x.plate(11);
        x.day();
        return x;
    }

    private static void platedNumbers() {
        PageOne x = plated();
        Bounds.are("28: page", 0, 11, p -> x.plated(p, 3, 3) == p / 11);
        Bounds.are("28: column", 0, 7, c -> x.plated(11, c, 3) == 1);
        Bounds.are("28: line", 0, 59, l -> x.plated(11, 7, l) == 1);
        for (int page = 1; page < 11; page++) {
            Due.is("28: page " + page + " never was", x.plated(page, 0, 0), -1);
        }
        PageOne y = Make.desk(2, 0, 1);
        Make.ruleRest(y, 0);
        Due.is("28: before the plate", y.plated(0, 0, 0), -1);
        y.plate(0);
        Bounds.are("28: line of a column of two", 0, 1, l -> y.plated(0, 0, l) == 100);
        Bounds.are("28: line of a column of one", 0, 0, l -> y.plated(0, 2, l) == 100);
        Due.is("28: a column of no lines", y.plated(0, 1, 0), -1);
        Due.is("28: a column that never had lines", y.plated(0, 3, 0), -1);
    }

    private static void platedLast() {
        PageOne x = Make.desk(2);
        int f = x.filler(1, 2);
        x.put(f, 0, 0, 0, 2);
        x.plate(0);
        x.lift(f);
        Due.is("28: a lift changes no plate", x.plated(0, 0, 1), f);
        x.edition();
        x.day();
        x.column(0, 0, 1);
        Due.is("28: nor does a shorter column", x.plated(0, 0, 1), f);
        x.rule(0, 0, 0);
        Due.is("28: nor a rule", x.plated(0, 0, 0), f);
        x.plate(0);
        Due.is("28: the last of all days", x.plated(0, 0, 0), 100);
        Due.is("28: had no such cell", x.plated(0, 0, 1), -1);
        Due.is("27: it was printed still", x.printed(f, 0), 0);
    }

    private static void plateOfNumbers() {
        PageOne x = plated();
        Bounds.are("29: page", 0, 11, p -> x.plateOf(p, 0) == 0);
        Bounds.are("29: what", 0, 1, what -> x.plateOf(11, what) == 0);
        for (int page = 1; page < 11; page++) {
            Due.is("29: page " + page + " has none", x.plateOf(page, 0), -1);
            Due.is("29: nor an edition", x.plateOf(page, 1), -1);
        }
        PageOne y = ruled();
        for (int e = 1; e <= 7; e++) {
            y.edition();
        }
        y.plate(3);
        Due.is("29: day 0", y.plateOf(3, 0), 0);
        Due.is("29: edition 7", y.plateOf(3, 1), 7);
        y.day();
        Due.is("29: the day stays", y.plateOf(3, 0), 0);
        y.rule(3, 7, 0);
        y.plate(3);
        Due.is("29: the latest day", y.plateOf(3, 0), 1);
        Due.is("29: with its edition", y.plateOf(3, 1), 0);
    }

    /** Buyer 9 owes 12 for day 0, 0 for day 1, 12 for day 2, which is at hand. */
    private static PageOne owing() {
        PageOne x = Make.desk(2, 2, 2);
        int p = x.paid(9, 0, 0, 0, 3, 2, 2);
        x.put(p, 0, 0, 0, 0);
        x.plate(0);
        x.day();
        x.put(p, 0, 0, 0, 0);
        x.day();
        x.put(p, 0, 0, 0, 0);
        x.plate(0);
        return x;
    }

    private static void billNumbers() {
        PageOne x = owing();
        Bounds.are("30: day", 0, 2, d -> x.bill(9, d) == 12);
        Bounds.are("30: buyer", 0, 9, b -> x.bill(b, 0) == (b == 9 ? 12 : 0));
        Due.is("30: it stood, but was not printed", x.bill(9, 1), 0);
        for (int buyer = 0; buyer < 9; buyer++) {
            Due.is("30: others owe nothing", x.bill(buyer, 2), 0);
        }
        for (int buyer : Bounds.beyond(0, 9)) {
            Due.is("30: buyer " + buyer, x.bill(buyer, 2), -1);
        }
        x.day();
        Due.is("30: a new day is taken", x.bill(9, 3), 0);
        Due.is("30: not the one behind it", x.bill(9, 4), -1);
    }

    private static void billOfNothing() {
        PageOne x = Make.desk(1);
        int p = x.paid(2, 0, 0, 0, 1, 1, 0);
        x.put(p, 0, 0, 0, 0);
        x.plate(0);
        Due.is("30: a price of 0", x.bill(2, 0), 0);
        PageOne y = Make.desk(60, 60, 60, 60, 60, 60, 60, 60);
        int q = y.paid(2, 0, 0, 0, 8, 60, 1000);
        Due.is("30: it was sold", y.bill(2, 0), 0);
        y.put(q, 0, 0, 0, 0);
        Due.is("30: it stands", y.bill(2, 0), 0);
        y.plate(0);
        Due.is("30: the dearest of all", y.bill(2, 0), 480000);
        y.day();
        Due.is("30: on the next day still", y.bill(2, 0), 480000);
    }

    private static void billOnce() {
        PageOne x = Make.desk(1, 1);
        int p = x.paid(0, 0, 0, 0, 1, 1, 5);
        int q = x.paid(0, 0, 1, 0, 1, 1, 7);
        x.put(p, 0, 0, 0, 0);
        x.rule(0, 1, 0);
        x.plate(0);
        x.plate(0);
        Due.is("30: plated twice in an edition", x.bill(0, 0), 5);
        x.undo();
        x.put(q, 0, 1, 0, 0);
        for (int e = 1; e <= 7; e++) {
            x.edition();
            x.plate(0);
            Due.is("30: each square once, edition " + e, x.bill(0, 0), 12);
        }
        x.day();
        Due.is("30: the day's sum", x.bill(0, 0), 12);
        x.put(p, 0, 0, 0, 0);
        x.rule(0, 1, 0);
        x.plate(0);
        Due.is("30: the next day once more", x.bill(0, 1), 5);
        Due.is("30: beside the day before", x.bill(0, 0), 12);
    }

    private static void billOfReplacedPlates() {
        PageOne x = Make.desk(1);
        int p = x.paid(0, 0, 0, 0, 1, 1, 5);
        x.put(p, 0, 0, 0, 0);
        x.plate(0);
        x.lift(p);
        Due.is("30: the plate counts, not the page", x.bill(0, 0), 5);
        x.rule(0, 0, 0);
        x.plate(0);
        Due.is("30: the second plate alone counts", x.bill(0, 0), 0);
        x.day();
        Due.is("30: on the next day too", x.bill(0, 0), 0);
        x.put(p, 0, 0, 0, 0);
        x.plate(0);
        x.edition();
        x.lift(p);
        x.rule(0, 0, 0);
        x.plate(0);
        Due.is("30: another edition takes nothing away", x.bill(0, 1), 5);
    }

    private static void billOfEightySquares() {
        PageOne x = Make.desk(10, 10, 10, 10, 10, 10, 10, 10);
        for (int i = 0; i < 80; i++) {
            Due.is("9: square", x.paid(i % 2, 0, i / 10, i % 10, 1, 1, 1000 - i), i);
        }
        for (int i = 0; i < 80; i++) {
            x.put(i, 0, i / 10, i % 10, 0);
        }
        Due.is("19: all eighty", x.plate(0), 80);
        Due.is("30: the even ones", x.bill(0, 0), 40 * 1000 - 1560);
        Due.is("30: the odd ones", x.bill(1, 0), 40 * 1000 - 1600);
        x.day();
        Due.is("30: the next day", x.bill(0, 0) + x.bill(1, 0), 80 * 1000 - 3160);
    }

    private static void aboutNumbers() {
        PageOne x = Desks.busy();
        Due.are("31: about", Make.about(x), 1, 1, 7, 7, 0);
        Bounds.are("31: what", 0, 4, what -> x.about(what) >= 0);
        Due.are("31: asking changes nothing", Make.about(x), 1, 1, 7, 7, 0);
    }

    private static void aboutTwelvePlates() {
        PageOne x = ruled();
        for (int page = 11; page >= 0; page--) {
            x.plate(page);
            Due.is("31: plates", x.about(4), 12 - page);
        }
        x.plate(5);
        Due.is("31: twelve, one of them twice", x.about(4), 12);
        x.edition();
        Due.is("31: none of the next edition", x.about(4), 0);
        x.plate(5);
        Due.is("31: one", x.about(4), 1);
        x.day();
        x.edition();
        Due.is("31: the same edition of another day", x.about(4), 0);
    }
}
