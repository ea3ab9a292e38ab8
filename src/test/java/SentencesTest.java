/** Sentences of the document, in its order, that the other tests say little of; SENTENCES.md lists them all. */
public final class SentencesTest {
    public static void main(String[] args) {
        usedFor512Calls();
        readmeExample();
        pagesOfTheirOwn();
        soldWhereNoColumnIs();
        soldCellsAreFreeForOthers();
        theCellForSayingSo();
        besideTheCellForSayingSo();
        aLaterColumnOrPage();
        anotherSizeAnotherTime();
        noticeOnAnyLaterPage();
        noticeOfWhatALaterPagePrinted();
        noticesBesideOneAnother();
        storiesAndSquaresAlone();
        rivalsAreThoseTwo();
        namedAreThoseBuyers();
        headsOfTwoStories();
        headWhoseStoryIsElsewhere();
        brokenAndStillPut();
        eachKindIsPrinted();
        eachKindComesBack();
        eachKindIsLiftedAtTheDaysEnd();
        whatAPlateDoesNotAsk();
        undoneAfterEditionsAndPlates();
        linesOfTwoStories();
        fillsEveryRowThatItCan();
        fillAfterPlatesAndDays();
        billsOfDaysBefore();
        billsOfTwoPages();
        Due.end();
    }

    private static void usedFor512Calls() {
        PageOne x = Make.desk(60, 60, 60, 60, 60);
        for (int i = 0; i < 300; i++) {
            x.rule(0, i / 60, i % 60);
        }
        for (int left = 299; left >= 94; left--) {
            x.undo();
        }
        // 5 columns, 300 rules and 206 acts taken back: 511 calls.
        Due.is("the 512th call", x.undo(), 93);

        PageOne y = new PageOne();
        for (int day = 1; day <= 399; day++) {
            y.day();
        }
        for (int i = 0; i < 80; i++) {
            y.picture();
        }
        for (int i = 0; i < 32; i++) {
            y.size(i, 1, 1);
        }
        Due.is("the 512th call of another desk", y.size(31, 1, 2), 2);
    }

    /** The calls of README.md's example, with the answers that it tells. */
    private static void readmeExample() {
        PageOne desk = new PageOne();
        Due.yes("README: column", desk.column(0, 0, 4));
        int story = desk.story(2);
        Due.is("README: a line", desk.line(story, 50), 1);
        Due.is("README: another", desk.line(story, 48), 2);
        int head = desk.head(story, 1, 1);
        Due.is("README: the head", desk.put(head, 0, 0, 0, 0), 1);
        Due.is("README: the story", desk.put(story, 0, 0, 1, 2), 1);
        Due.yes("README: a rule", desk.rule(0, 0, 3));
        Due.is("README: the plate", desk.plate(0), 4);
        Due.is("README: printed", desk.printed(story, 4), 1);
        Due.is("README: the next day", desk.day(), 1);
        Due.is("README: the page is empty", desk.shortOf(0, 0), 4);
    }

    private static void pagesOfTheirOwn() {
        PageOne x = new PageOne();
        for (int page = 0; page < 12; page++) {
            for (int column = 0; column < 8; column++) {
                x.column(page, column, (page * 8 + column) % 61);
            }
        }
        for (int page = 0; page < 12; page++) {
            for (int column = 0; column < 8; column++) {
                Due.is("I: each column its own lines", x.shortOf(page, column), (page * 8 + column) % 61);
            }
        }
        PageOne y = new PageOne();
        for (int page = 0; page < 12; page++) {
            y.column(page, 0, 1);
            y.measure(page, 104 - page);
            y.line(y.story(1), 104 - page);
        }
        y.edition();
        fitTheirPages(y);
        y.day();
        fitTheirPages(y);
    }

    /** Story n is as wide as page n's measure, and each page's is one less than that of the page before. */
    private static void fitTheirPages(PageOne x) {
        for (int page = 0; page < 12; page++) {
            Due.is("I: as wide as the measure, page " + page, x.put(page, page, 0, 0, 1), 1);
            x.lift(page);
            if (page > 0) {
                Due.is("I: wider than the measure, page " + page, x.put(page - 1, page, 0, 0, 1), -1);
            }
        }
    }

    private static void soldWhereNoColumnIs() {
        PageOne x = Make.desk(3, 0, 3);
        int p = x.paid(1, 0, 1, 0, 1, 2, 5);
        Due.is("9: a column of no lines, beside others", p, 0);
        Due.is("9: below a column's lines", x.paid(1, 0, 0, 50, 3, 10, 5), 1);
        Due.is("9: half beyond the columns", x.paid(1, 0, 2, 0, 6, 1, 5), 2);
        Due.is("14: there are no such cells", x.put(p, 0, 1, 0, 0), -1);
        Due.is("14: nor these", x.put(1, 0, 0, 50, 0), -1);
        Due.is("14: nor all of these", x.put(2, 0, 2, 0, 0), -1);
        Due.yes("2: the column gets lines", x.column(0, 1, 2));
        Due.is("14: now there are", x.put(p, 0, 1, 0, 0), 1);
    }

    private static void soldCellsAreFreeForOthers() {
        PageOne x = Make.desk(2);
        int p = x.paid(1, 0, 0, 0, 1, 2, 5);
        int q = x.paid(2, 0, 0, 0, 1, 1, 5);
        int f = x.filler(1, 2);
        Due.is("II: another square that was sold there", x.put(q, 0, 0, 0, 0), 1);
        Due.is("II: they aren't empty any more", x.put(p, 0, 0, 0, 0), -1);
        x.lift(q);
        Due.is("17: a filler on cells that were sold", x.fill(0), 1);
        x.lift(f);
        Due.yes("16: a rule on a cell that was sold", x.rule(0, 0, 0));
        Due.yes("16: and on the other", x.rule(0, 0, 1));
        Due.is("19: a square that was sold need not stand", x.plate(0), 2);
        Due.is("30: then nothing is owed", x.bill(1, 0), 0);
    }

    /** A story of three cells on each of three pages. */
    private static PageOne overThreePages() {
        PageOne x = new PageOne();
        for (int page = 0; page < 3; page++) {
            Make.columns(x, page, 3, 3);
        }
        int s = Make.story(x, 1, 9);
        for (int page = 0; page < 3; page++) {
            Due.is("II: a piece on each page", x.put(s, page, 0, 0, 3), page + 1);
        }
        return x;
    }

    private static void theCellForSayingSo() {
        PageOne x = overThreePages();
        for (int page = 0; page < 3; page++) {
            Due.are("II: all three cells are the story's", Make.column(x, page, 0, 3), 0, 0, 0);
            Due.is("II: none is empty", x.shortOf(page, 0), 0);
            Due.no("16: no rule comes there", x.rule(page, 0, page == 0 ? 2 : 0));
        }
        Due.are("II: two lines, the last cell says so", Make.piece(x, 0, 0), 0, 0, 0, 1, 3, 0, 2);
        Due.are("II: one line, both cells say so", Make.piece(x, 0, 1), 1, 0, 0, 1, 3, 2, 1);
        Due.are("II: two lines, the first cell says so", Make.piece(x, 0, 2), 2, 0, 0, 1, 3, 3, 2);
        Due.is("24: five stand", x.item(0, 3), 5);
        for (int line = 0; line < 3; line++) {
            x.rule(1, 1, line);
        }
        Due.is("19: they count as cells", x.plate(1), 6);
        Due.is("28: as the story's", x.plated(1, 0, 2), 0);
        Due.are("27: it is printed from its first cell on", Make.printed(x, 0), 0, 0, 1, 0, 0);
    }

    private static void besideTheCellForSayingSo() {
        PageOne x = overThreePages();
        int p = x.paid(4, 1, 1, 0, 1, 1, 5);
        int q = x.paid(5, 1, 1, 2, 1, 1, 5);
        x.put(p, 1, 1, 0, 0);
        x.put(q, 1, 1, 2, 0);
        Due.are("26: none is named", Make.broken(x, 1), 0, -1, -1);
        x.names(0, 5);
        Due.are("26: beside the last cell, which takes no line", Make.broken(x, 1), 2, 0, q);
        x.names(0, 4);
        Due.are("26: beside the first cell, which takes no line", Make.broken(x, 1), 2, 0, p);

        PageOne y = new PageOne();
        Make.columns(y, 0, 3);
        Make.columns(y, 1, 4);
        int s = Make.story(y, 1, 9);
        int h = y.head(s, 1, 1);
        y.put(s, 0, 0, 0, 3);
        y.put(h, 1, 0, 0, 0);
        y.put(s, 1, 0, 1, 3);
        Due.are("26: a head over the cell that takes no line", Make.broken(y, 1), 0, -1, -1);
    }

    private static void aLaterColumnOrPage() {
        PageOne x = Make.desk(9, 9, 9, 9, 9, 9, 9, 9);
        Make.columns(x, 11, 9);
        int s = Make.story(x, 1, 20);
        x.put(s, 0, 0, 4, 2);
        Due.is("II: the last column, higher up", x.put(s, 0, 7, 0, 2), 2);
        Due.is("II: further down, cells lie between", x.put(s, 0, 7, 7, 2), 3);
        Due.is("II: the last page, an earlier column", x.put(s, 11, 0, 0, 2), 4);
        Due.are("II: its line", Make.piece(x, s, 3), 11, 0, 0, 1, 2, 5, 1);
    }

    private static void anotherSizeAnotherTime() {
        PageOne x = Make.desk(4, 4);
        int p = x.picture();
        x.size(p, 1, 4);
        x.size(p, 2, 1);
        Due.is("II: one size", x.put(p, 0, 1, 0, 0), 1);
        x.lift(p);
        Due.is("II: the other", x.put(p, 0, 0, 3, 1), 1);
        Due.are("II: its piece", Make.piece(x, p, 0), 0, 0, 3, 2, 1, 0, 0);
        x.undo();
        x.undo();
        Due.are("18: the one that stood", Make.piece(x, p, 0), 0, 1, 0, 1, 4, 0, 0);
    }

    /** A filler was printed on page 4, column 5, on day 0; item 1 is its notice, of one line; it is day 1. */
    private static PageOne mending() {
        PageOne x = new PageOne();
        for (int page = 3; page < 12; page++) {
            x.column(page, 0, 2);
            x.column(page, 5, 2);
            x.column(page, 7, 2);
        }
        int f = x.filler(1, 1);
        x.put(f, 4, 5, 1, 1);
        Make.ruleRest(x, 4);
        Due.is("19: page 4", x.plate(4), 6);
        Due.is("11: its notice", x.notice(f, 1), 1);
        x.day();
        return x;
    }

    private static void noticeOnAnyLaterPage() {
        PageOne x = mending();
        for (int page = 3; page < 12; page++) {
            for (int column : new int[] {0, 5, 7}) {
                for (int line = 0; line < 2; line++) {
                    boolean may = page > 4 || page == 4 && column >= 5;
                    Due.is("II: a notice on " + page + " " + column + " " + line, x.put(1, page, column, line, 0), may ? 1 : -1);
                    Due.is("15: lifted", x.lift(1), may ? 0 : -1);
                }
            }
        }
    }

    private static void noticeOfWhatALaterPagePrinted() {
        PageOne x = new PageOne();
        for (int page = 0; page < 3; page++) {
            Make.columns(x, page, 2, 2, 2);
        }
        int s = Make.story(x, 1, 9);
        x.put(s, 0, 0, 0, 2);
        x.put(s, 1, 1, 0, 2);
        x.put(s, 1, 2, 0, 1);
        Make.ruleRest(x, 1);
        Due.is("19: the second page alone", x.plate(1), 6);
        Due.are("27: its first piece there", Make.printed(x, s), 0, 0, 1, 1, 0);
        int n = x.notice(s, 1);
        x.day();
        Due.is("II: the page that was not plated", x.put(n, 0, 2, 0, 0), -1);
        Due.is("II: before its first piece there", x.put(n, 1, 0, 0, 0), -1);
        Due.is("II: where its first piece there was", x.put(n, 1, 1, 1, 0), 1);
        x.lift(n);
        Due.is("II: a later column", x.put(n, 1, 2, 0, 0), 1);
        x.lift(n);
        Due.is("II: a later page", x.put(n, 2, 0, 0, 0), 1);
    }

    private static void noticesBesideOneAnother() {
        PageOne x = Make.desk(4);
        int[] f = {x.filler(1, 1), x.filler(1, 1)};
        x.put(f[0], 0, 0, 0, 1);
        x.put(f[1], 0, 0, 1, 1);
        Make.ruleRest(x, 0);
        x.plate(0);
        int n = x.notice(f[0], 1);
        int m = x.notice(f[1], 1);
        x.day();
        x.put(f[0], 0, 0, 2, 1);
        Due.is("II: what it mends may stand too", x.put(n, 0, 0, 0, 0), 1);
        Due.is("II: another notice on the same page", x.put(m, 0, 0, 1, 0), 1);
        Due.is("II: what the other mends comes behind it", x.put(f[1], 0, 0, 3, 1), 1);
        Due.is("19: nothing is broken by that", x.plate(0), 4);
        x.edition();
        x.lift(n);
        Due.is("II: the day on which it was printed", x.put(n, 0, 0, 0, 0), 1);
        x.day();
        Due.is("II: a day behind that", x.put(n, 0, 0, 0, 0), -1);
        Due.is("II: so for the other", x.put(m, 0, 0, 1, 0), -1);
        Due.is("II: what they mend may come on any day", x.put(f[0], 0, 0, 0, 1), 1);
    }

    /** Of a square's neighbours only rivals' squares and stories that name its buyer break the page. */
    private static void storiesAndSquaresAlone() {
        PageOne x = Make.desk(3, 3, 3);
        int s = Make.story(x, 1, 3);
        int h = x.head(s, 1, 1);
        int p = x.picture();
        x.size(p, 1, 1);
        int q = x.paid(6, 0, 1, 1, 1, 1, 5);
        int f = x.filler(1, 1);
        x.names(s, 6);
        x.put(q, 0, 1, 1, 0);
        x.put(h, 0, 0, 1, 0);
        x.put(s, 0, 0, 2, 1);
        x.put(p, 0, 1, 0, 0);
        x.put(f, 0, 1, 2, 1);
        x.rule(0, 2, 1);
        Due.are("26: a head, a picture, a filler and a rule beside it", Make.broken(x, 0), 0, -1, -1);
        Make.ruleRest(x, 0);
        Due.is("19: the page", x.plate(0), 9);
        int n = x.notice(p, 1);
        x.day();
        x.put(q, 0, 1, 1, 0);
        x.put(n, 0, 1, 2, 0);
        Due.are("26: a notice beside it", Make.broken(x, 0), 0, -1, -1);
        x.put(s, 0, 2, 1, 1);
        Due.are("26: the story beside it", Make.broken(x, 0), 2, s, q);
    }

    private static void rivalsAreThoseTwo() {
        for (int a = 0; a < 10; a++) {
            for (int b = 0; b < 10; b++) {
                PageOne x = Make.desk(1, 1);
                x.paid(a, 0, 0, 0, 1, 1, 1);
                x.paid(b, 0, 1, 0, 1, 1, 1);
                x.put(0, 0, 0, 0, 0);
                x.put(1, 0, 1, 0, 0);
                for (int c = 0; c < 10; c++) {
                    for (int d = 0; d < c; d++) {
                        if (c != Math.max(a, b) || d != Math.min(a, b)) {
                            x.rival(c, d);
                        }
                    }
                }
                Due.are("26: all others are rivals, " + a + " " + b, Make.broken(x, 0), 0, -1, -1);
                boolean two = x.rival(a, b);
                Due.are("26: these two are, " + a + " " + b, Make.broken(x, 0), two ? 1 : 0, two ? 0 : -1, two ? 1 : -1);
                Due.is("12: if they are two, " + a + " " + b, two ? 1 : 0, a == b ? 0 : 1);
            }
        }
    }

    private static void namedAreThoseBuyers() {
        for (int buyer = 0; buyer < 10; buyer++) {
            PageOne x = Make.desk(1, 1);
            int s = Make.story(x, 1, 1);
            int other = Make.story(x, 1, 1);
            int p = x.paid(buyer, 0, 1, 0, 1, 1, 1);
            x.put(s, 0, 0, 0, 1);
            x.put(p, 0, 1, 0, 0);
            for (int b = 0; b < 10; b++) {
                x.names(other, b);
                if (b != buyer) {
                    x.names(s, b);
                    x.rival(b, buyer);
                }
            }
            Due.are("26: it names all others, " + buyer, Make.broken(x, 0), 0, -1, -1);
            x.names(s, buyer);
            Due.are("26: it names the buyer, " + buyer, Make.broken(x, 0), 2, s, p);
        }
    }

    private static void headsOfTwoStories() {
        PageOne x = Make.desk(3, 3, 3);
        int s = Make.story(x, 1, 3);
        int t = Make.story(x, 1, 3);
        int h = x.head(s, 1, 1);
        int g = x.head(t, 1, 1);
        x.put(h, 0, 0, 0, 0);
        x.put(s, 0, 0, 1, 1);
        x.put(g, 0, 1, 0, 0);
        x.put(t, 0, 1, 1, 1);
        Due.are("26: of two stories, beside one another", Make.broken(x, 0), 3, h, g);
        x.lift(t);
        x.lift(g);
        x.put(g, 0, 1, 1, 0);
        x.put(t, 0, 1, 2, 1);
        Due.are("26: a line lower they don't meet", Make.broken(x, 0), 0, -1, -1);
    }

    private static void headWhoseStoryIsElsewhere() {
        PageOne x = Make.desk(3);
        Make.columns(x, 1, 3);
        int s = Make.story(x, 1, 3);
        int h = x.head(s, 1, 1);
        Due.is("II: a head may stand before its story does", x.put(h, 0, 0, 0, 0), 1);
        x.put(s, 1, 0, 1, 1);
        Due.are("26: right below it, but on another page", Make.broken(x, 0), 5, h, -1);
        Due.are("26: the other page has no head", Make.broken(x, 1), 0, -1, -1);
        x.lift(h);
        Due.is("II: on another page than its story", x.put(h, 0, 0, 2, 0), 1);
        x.lift(s);
        x.lift(h);
        x.put(h, 1, 0, 0, 0);
        x.put(s, 1, 0, 1, 1);
        Due.are("26: right below it", Make.broken(x, 1), 0, -1, -1);
    }

    /** What would be broken can't be plated, but it can be put, and it can be mended by an act. */
    private static void brokenAndStillPut() {
        PageOne x = Make.desk(2, 2);
        int s = Make.story(x, 3, 3);
        int h = x.head(s, 1, 1);
        int g = x.head(s, 1, 1);
        int p = x.paid(0, 0, 0, 0, 1, 1, 1);
        int q = x.paid(1, 0, 1, 0, 1, 1, 1);
        x.rival(0, 1);
        x.names(s, 1);
        Due.is("14: a square", x.put(p, 0, 0, 0, 0), 1);
        Due.is("14: a rival beside it", x.put(q, 0, 1, 0, 0), 1);
        Due.is("14: a story that names it, too short", x.put(s, 0, 1, 1, 1), 1);
        Due.is("26: broken", x.broken(0, 0), 1);
        x.lift(p);
        x.lift(q);
        Due.is("14: a head without its story below", x.put(g, 0, 0, 0, 0), 1);
        Due.is("14: a head beside it", x.put(h, 0, 1, 0, 0), 1);
        Due.is("26: broken still", x.broken(0, 0), 3);
    }

    /** Page 0 with an item of each of five kinds: a head over its story, a picture, a square, a filler. */
    private static PageOne kinds() {
        PageOne x = Make.desk(3, 3);
        int s = Make.story(x, 1, 2);
        x.head(s, 1, 1);
        int p = x.picture();
        x.size(p, 1, 1);
        x.paid(2, 0, 1, 1, 1, 1, 7);
        x.filler(1, 1);
        putKinds(x);
        return x;
    }

    private static final int[][] KIND_PLACES = {{0, 1, 2}, {0, 0, 0}, {1, 0, 0}, {1, 1, 0}, {1, 2, 1}};

    private static void putKinds(PageOne x) {
        for (int item = 0; item < 5; item++) {
            int[] at = KIND_PLACES[item];
            Due.is("14: item " + item, x.put(item, 0, at[0], at[1], at[2]), 1);
        }
    }

    private static void eachKindIsPrinted() {
        PageOne x = kinds();
        x.edition();
        Due.is("19: the page", x.plate(0), 6);
        for (int when = 0; when < 3; when++) {
            for (int item = 0; item < 5; item++) {
                int[] at = KIND_PLACES[item];
                Due.are("27: item " + item, Make.printed(x, item), 0, 1, 0, at[0], at[1]);
            }
            Due.is("III: the edition's end, then the day's", when == 0 ? x.edition() : x.day(), when == 0 ? 2 : when);
        }
        putKinds(x);
        x.plate(0);
        for (int item = 0; item < 5; item++) {
            Due.is("27: printed again, but first on day 0: item " + item, x.printed(item, 0), 0);
        }
        int n = x.notice(1, 1);
        x.day();
        x.put(n, 0, 1, 2, 0);
        Make.ruleRest(x, 0);
        x.plate(0);
        Due.are("27: a notice", Make.printed(x, n), 3, 0, 0, 1, 2);
        x.day();
        Due.are("27: a notice, the day behind", Make.printed(x, n), 3, 0, 0, 1, 2);
    }

    private static void eachKindComesBack() {
        PageOne x = kinds();
        for (int item = 0; item < 5; item++) {
            int[] facts = Make.piece(x, item, 0);
            Due.is("15: item " + item, x.lift(item), 0);
            Due.is("18: the lift of item " + item, x.undo(), 5);
            Due.are("18: it is back", Make.piece(x, item, 0), facts);
            Due.is("18: on its cell", x.cell(0, facts[1], facts[2]), item);
        }
        x.plate(0);
        int n = x.notice(4, 1);
        x.day();
        x.put(n, 0, 1, 0, 0);
        x.lift(n);
        Due.is("18: the lift of a notice", x.undo(), 1);
        Due.are("18: it is back", Make.piece(x, n, 0), 0, 1, 0, 1, 1, 0, 0);
        Due.is("18: its put", x.undo(), 0);
        Due.is("18: it is gone", x.item(n, 1), 0);
    }

    private static void eachKindIsLiftedAtTheDaysEnd() {
        PageOne x = kinds();
        x.plate(0);
        int n = x.notice(4, 1);
        x.day();
        for (int item = 0; item < 5; item++) {
            Due.is("III: item " + item, x.item(item, 1), 0);
            Due.is("III: no piece of item " + item, x.piece(item, 0, 0), -1);
        }
        Due.is("III: all cells are empty", x.shortOf(0, 0) + x.shortOf(0, 1), 6);
        putKinds(x);
        x.lift(4);
        x.put(n, 0, 1, 2, 0);
        x.day();
        Due.is("III: a notice", x.item(n, 1), 0);
        Due.is("III: all cells again", x.shortOf(0, 0) + x.shortOf(0, 1), 6);
    }

    /** A page is plated if it has columns, all its cells are taken and nothing is broken; no more is asked. */
    private static void whatAPlateDoesNotAsk() {
        PageOne x = Make.desk(2);
        Make.columns(x, 1, 2);
        int s = Make.story(x, 1, 9);
        x.head(s, 1, 1);
        x.put(s, 0, 0, 0, 2);
        Due.is("19: a story without its head, and not all its lines", x.plate(0), 2);
        x.put(s, 1, 0, 0, 2);
        x.edition();
        Due.is("19: a story whose other page is not plated", x.plate(1), 2);
        Due.is("19: also when it was plated before", x.plate(0), 2);
        Due.is("31: two pages", x.about(4), 2);
    }

    private static void undoneAfterEditionsAndPlates() {
        PageOne x = Make.desk(2);
        int f = x.filler(2, 2);
        x.fill(0);
        x.plate(0);
        x.edition();
        x.lift(f);
        x.edition();
        Due.is("18: the lift of the edition before", x.undo(), 1);
        Due.is("18: it is back", x.cell(0, 0, 1), f);
        x.plate(0);
        Due.is("18: the fill of two editions before", x.undo(), 0);
        Due.is("18: the page is empty", x.shortOf(0, 0), 2);
        Due.is("28: the plate is not", x.plated(0, 0, 1), f);
        Due.is("29: it is of edition 2", x.plateOf(0, 1), 2);
        Due.are("27: printed in edition 0", Make.printed(x, f), 0, 0, 0, 0, 0);
        Due.yes("2: no act is kept, though the page was plated", x.column(0, 0, 1));
        Due.is("28: the plate has its cells", x.plated(0, 0, 1), f);
        Due.yes("3: so for its measure", x.measure(0, 20));
    }

    private static void linesOfTwoStories() {
        PageOne x = Make.desk(60);
        x.measure(0, 20);
        int s = x.story(1);
        int t = x.story(1);
        for (int i = 1; i <= 9; i++) {
            Due.is("5: the one's", x.line(s, i == 5 ? 21 : 20), i);
            Due.is("5: the other's", x.line(t, i == 7 ? 21 : 20), i);
        }
        Due.is("5: the one's fifth is wide", x.put(s, 0, 0, 0, 5), -1);
        Due.is("5: four are not", x.put(s, 0, 0, 0, 4), 1);
        Due.is("5: the other's seventh is wide", x.put(t, 0, 0, 10, 7), -1);
        Due.is("5: six are not", x.put(t, 0, 0, 10, 6), 1);
    }

    /** Rows that no filler takes are passed by, at the top, between others and in a column of their own. */
    private static void fillsEveryRowThatItCan() {
        PageOne x = Make.desk(12, 3, 2);
        for (int line : new int[] {3, 6, 10}) {
            x.rule(0, 0, line);
        }
        int two = x.filler(2, 2);
        int one = x.filler(1, 1);
        int other = x.filler(2, 2);
        Due.is("17: rows of 3, 2, 3 and 1, then of 3, then of 2", x.fill(0), 3);
        Due.are("17: the second and the fourth", Make.column(x, 0, 0, 12),
                -2, -2, -2, 100, two, two, 100, -2, -2, -2, 100, one);
        Due.are("17: none", Make.column(x, 0, 1, 3), -2, -2, -2);
        Due.are("17: the last", Make.column(x, 0, 2, 2), other, other);
    }

    private static void fillAfterPlatesAndDays() {
        PageOne x = Make.desk(2, 2);
        int f = x.filler(2, 2);
        int g = x.filler(2, 2);
        Due.is("17: two", x.fill(0), 2);
        x.plate(0);
        x.lift(f);
        Due.is("17: on a page that was plated, one that was printed", x.fill(0), 1);
        Due.is("17: it is the one that did not stand", x.cell(0, 0, 0), f);
        x.day();
        Due.is("17: on the next day both", x.fill(0), 2);
        Due.is("17: by number", x.cell(0, 1, 0), g);
    }

    private static void billsOfDaysBefore() {
        PageOne x = Make.desk(1);
        int p = x.paid(3, 0, 0, 0, 1, 1, 11);
        int q = x.paid(3, 0, 0, 0, 1, 1, 13);
        int[] owed = {11, 13, 0, 11, 11, 13};
        for (int day = 0; day < owed.length; day++) {
            if (owed[day] > 0) {
                x.put(owed[day] == 11 ? p : q, 0, 0, 0, 0);
                x.plate(0);
            }
            for (int before = 0; before <= day; before++) {
                Due.is("30: on day " + day + " for day " + before, x.bill(3, before), owed[before]);
            }
            Due.is("21: the day's end", x.day(), day + 1);
        }
        for (int day = 0; day < owed.length; day++) {
            Due.is("30: in the end for day " + day, x.bill(3, day), owed[day]);
        }
    }

    private static void billsOfTwoPages() {
        PageOne x = Make.desk(1);
        Make.columns(x, 11, 1, 1);
        int p = x.paid(0, 0, 0, 0, 1, 1, 100);
        int q = x.paid(0, 11, 0, 0, 2, 1, 10);
        int r = x.paid(9, 11, 0, 0, 1, 1, 1);
        x.put(p, 0, 0, 0, 0);
        x.put(q, 11, 0, 0, 0);
        x.plate(11);
        Due.is("30: page 11 alone is plated", x.bill(0, 0), 20);
        x.edition();
        x.plate(0);
        Due.is("30: page 0 in the next edition", x.bill(0, 0), 120);
        x.lift(q);
        x.put(r, 11, 0, 0, 0);
        x.rule(11, 1, 0);
        x.plate(11);
        Due.is("30: another's square came later", x.bill(9, 0), 1);
        Due.is("30: the first edition's still counts", x.bill(0, 0), 120);
        x.day();
        Due.is("30: the day behind", x.bill(0, 0) + x.bill(9, 0), 121);
        Due.is("30: for which nothing is owed yet", x.bill(0, 1) + x.bill(9, 1), 0);
    }
}
