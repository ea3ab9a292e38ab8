/** Promises 14 to 18, 22, 23 and 25: what comes to stand, is lifted, filled and taken back. */
public final class ActsTest {
    public static void main(String[] args) {
        putOfEachKind();
        putOnlyOnEmptyCells();
        putWrongNumbers();
        storyGoesForward();
        storyTurnsPages();
        storyLinesHaveCome();
        storyLinesFitTheMeasure();
        storyHasSixPieces();
        paidWhereSold();
        noticeWhereItMay();
        noticeAfterItsDay();
        lifts();
        rules();
        fills();
        fillsByNumber();
        fillsEachRow();
        undoes();
        undoesFills();
        threeHundredActs();
        cellsAndShorts();
        Due.end();
    }

    private static void putOfEachKind() {
        PageOne x = Make.desk(10, 10, 10);
        int s = Make.story(x, 1, 5);
        int h = x.head(s, 2, 3);
        int p = x.picture();
        x.size(p, 1, 1);
        x.size(p, 2, 2);
        int f = x.filler(2, 4);
        Due.is("14: a story's 4", x.put(s, 0, 0, 0, 4), 1);
        Due.are("14: its piece", Make.piece(x, s, 0), 0, 0, 0, 1, 4, 0, 4);
        Due.is("14: a head by 1", x.put(h, 0, 0, 4, 1), -1);
        Due.is("14: a head", x.put(h, 0, 0, 4, 0), 1);
        Due.are("14: its piece", Make.piece(x, h, 0), 0, 0, 4, 2, 3, 0, 0);
        Due.are("14: its left column", Make.column(x, 0, 0, 10), 0, 0, 0, 0, 1, 1, 1, -2, -2, -2);
        Due.are("14: its right column", Make.column(x, 0, 1, 10), -2, -2, -2, -2, 1, 1, 1, -2, -2, -2);
        Due.is("14: a size that it hasn't", x.put(p, 0, 1, 0, 2), -1);
        Due.is("14: size -1", x.put(p, 0, 1, 0, -1), -1);
        Due.is("14: size 1", x.put(p, 0, 1, 0, 1), 1);
        Due.are("14: its piece", Make.piece(x, p, 0), 0, 1, 0, 2, 2, 0, 0);
        Due.is("14: a picture stands once", x.put(p, 0, 2, 5, 0), -1);
        Due.is("14: a head stands once", x.put(h, 0, 1, 7, 0), -1);
        Due.is("14: a filler of 1", x.put(f, 0, 2, 2, 1), -1);
        Due.is("14: a filler of 5", x.put(f, 0, 2, 2, 5), -1);
        Due.is("14: a filler of 0", x.put(f, 0, 2, 2, 0), -1);
        Due.is("14: a filler of 4", x.put(f, 0, 2, 2, 4), 1);
        Due.are("14: its piece", Make.piece(x, f, 0), 0, 2, 2, 1, 4, 0, 0);
        Due.is("14: a filler stands once", x.put(f, 0, 2, 6, 2), -1);
        Due.is("14: acts", x.about(3), 4);
    }

    private static void putOnlyOnEmptyCells() {
        PageOne x = Make.desk(4, 2, 4);
        int s = Make.story(x, 1, 5);
        int wide = x.head(s, 2, 1);
        int all = x.head(s, 8, 1);
        Due.is("14: beyond the last line", x.put(s, 0, 0, 0, 5), -1);
        Due.is("14: from below the last line", x.put(s, 0, 0, 4, 1), -1);
        Due.is("14: the neighbour column is too short", x.put(wide, 0, 0, 2, 0), -1);
        Due.is("14: there is no neighbour column", x.put(wide, 0, 2, 0, 0), -1);
        Due.is("14: as wide as all columns", x.put(all, 0, 0, 0, 0), -1);
        Due.is("14: as wide as all columns, further right", x.put(all, 0, 7, 0, 0), -1);
        Due.yes("14: a rule", x.rule(0, 1, 1));
        Due.is("14: on a rule", x.put(wide, 0, 0, 1, 0), -1);
        Due.is("14: the piece that a refused call leaves", x.item(wide, 1), 0);
        Due.is("14: the cell that a refused call leaves", x.cell(0, 0, 1), -2);
        Due.is("14: above it", x.put(wide, 0, 0, 0, 0), 1);
        Due.is("14: on a head", x.put(s, 0, 0, 0, 1), -1);
        Due.is("14: over a head's line", x.put(s, 0, 1, 0, 2), -1);
        Due.is("14: below", x.put(s, 0, 0, 1, 3), 1);
        Due.is("14: acts", x.about(3), 3);
    }

    private static void putWrongNumbers() {
        PageOne x = Make.desk(4);
        int s = Make.story(x, 1, 5);
        int low = Integer.MIN_VALUE;
        int high = Integer.MAX_VALUE;
        Due.is("14: item -1", x.put(-1, 0, 0, 0, 1), -1);
        Due.is("14: item 1", x.put(1, 0, 0, 0, 1), -1);
        Due.is("14: item 100", x.put(100, 0, 0, 0, 1), -1);
        Due.is("14: page -1", x.put(s, -1, 0, 0, 1), -1);
        Due.is("14: page 12", x.put(s, 12, 0, 0, 1), -1);
        Due.is("14: column -1", x.put(s, 0, -1, 0, 1), -1);
        Due.is("14: column 8", x.put(s, 0, 8, 0, 1), -1);
        Due.is("14: a column of no lines", x.put(s, 0, 1, 0, 1), -1);
        Due.is("14: line -1", x.put(s, 0, 0, -1, 1), -1);
        Due.is("14: how 0", x.put(s, 0, 0, 0, 0), -1);
        Due.is("14: how -1", x.put(s, 0, 0, 0, -1), -1);
        Due.is("14: far above", x.put(high, high, high, high, high), -1);
        Due.is("14: far below", x.put(low, low, low, low, low), -1);
        Due.is("14: the line far above", x.put(s, 0, 0, high, 1), -1);
        Due.is("14: how far above", x.put(s, 0, 0, 1, high), -1);
        Due.is("14: no act", x.about(3), 0);
        Due.is("14: nothing stands", x.shortOf(0, 0), 4);
    }

    private static void storyGoesForward() {
        PageOne x = Make.desk(9, 9, 9);
        Make.columns(x, 1, 9);
        Make.columns(x, 2, 9);
        int s = Make.story(x, 1, 30);
        Due.is("II: the first anywhere", x.put(s, 1, 0, 3, 3), 1);
        Due.is("II: an earlier page", x.put(s, 0, 0, 0, 1), -1);
        Due.is("II: further up", x.put(s, 1, 0, 0, 2), -1);
        Due.is("II: further down", x.put(s, 1, 0, 7, 1), 2);
        Due.is("II: between the two", x.put(s, 1, 0, 6, 1), -1);
        x.lift(s);
        Due.is("II: right below", x.put(s, 1, 0, 6, 1), 2);
        Due.is("II: a later page", x.put(s, 2, 0, 0, 2), -1);

        PageOne y = Make.desk(9, 9, 9);
        int t = Make.story(y, 1, 30);
        Due.is("II: column 1", y.put(t, 0, 1, 5, 2), 1);
        Due.is("II: an earlier column", y.put(t, 0, 0, 8, 1), -1);
        Due.is("II: a later column, higher up", y.put(t, 0, 2, 0, 2), 2);
        Due.is("II: back to column 1", y.put(t, 0, 1, 8, 1), -1);
        Due.are("II: the second's lines", Make.piece(y, t, 1), 0, 2, 0, 1, 2, 2, 2);
        Due.is("II: all that stand", y.item(t, 3), 4);
    }

    private static void storyTurnsPages() {
        PageOne x = Make.desk(9);
        Make.columns(x, 1, 9, 9);
        Make.columns(x, 2, 9);
        int s = Make.story(x, 1, 30);
        x.put(s, 0, 0, 0, 1);
        Due.is("II: the one ahead would take none", x.put(s, 1, 0, 0, 3), -1);
        x.lift(s);
        x.put(s, 0, 0, 0, 2);
        Due.is("II: the new one would take none", x.put(s, 1, 0, 0, 1), -1);
        Due.is("II: each takes one", x.put(s, 1, 0, 0, 2), 2);
        Due.are("II: the one ahead", Make.piece(x, s, 0), 0, 0, 0, 1, 2, 0, 1);
        Due.are("II: the new one", Make.piece(x, s, 1), 1, 0, 0, 1, 2, 1, 1);
        Due.is("II: the middle one would take none", x.put(s, 2, 0, 0, 4), -1);
        Due.is("II: the same page takes all", x.put(s, 1, 1, 0, 1), 3);
        Due.are("II: its lines", Make.piece(x, s, 2), 1, 1, 0, 1, 1, 2, 1);
        x.lift(s);
        x.lift(s);
        Due.are("II: the one ahead has its line again", Make.piece(x, s, 0), 0, 0, 0, 1, 2, 0, 2);
        x.put(s, 1, 0, 0, 3);
        Due.is("II: two turns around the middle one", x.put(s, 2, 0, 0, 4), 3);
        Due.are("II: the middle one", Make.piece(x, s, 1), 1, 0, 0, 1, 3, 1, 1);
        Due.are("II: the last one", Make.piece(x, s, 2), 2, 0, 0, 1, 4, 2, 3);
        Due.is("II: all that stand", x.item(s, 3), 5);
        x.undo();
        Due.are("II: the middle one again", Make.piece(x, s, 1), 1, 0, 0, 1, 3, 1, 2);
    }

    private static void storyLinesHaveCome() {
        PageOne x = Make.desk(9);
        Make.columns(x, 1, 9);
        int s = Make.story(x, 1, 3);
        Due.is("II: four of three", x.put(s, 0, 0, 0, 4), -1);
        Due.is("II: three of three", x.put(s, 0, 0, 0, 3), 1);
        Due.is("II: one more", x.put(s, 0, 0, 3, 1), -1);
        Due.is("II: the turn gives one back", x.put(s, 1, 0, 0, 2), 2);
        Due.is("II: no more", x.put(s, 1, 0, 2, 1), -1);
        x.line(s, 10);
        Due.is("II: another has come", x.put(s, 1, 0, 2, 1), 3);
        Due.is("II: all stand", x.item(s, 3), 4);
    }

    private static void storyLinesFitTheMeasure() {
        PageOne x = Make.desk(9);
        Make.columns(x, 1, 9);
        x.measure(0, 20);
        x.measure(1, 30);
        int s = x.story(1);
        x.line(s, 20);
        x.line(s, 20);
        x.line(s, 21);
        x.line(s, 30);
        x.line(s, 31);
        Due.is("II: 21 on 20", x.put(s, 0, 0, 0, 3), -1);
        Due.is("II: 20 on 20", x.put(s, 0, 0, 0, 2), 1);
        Due.is("II: 31 on 30", x.put(s, 1, 0, 0, 5), -1);
        Due.is("II: 30 on 30", x.put(s, 1, 0, 0, 4), 2);
        Due.are("II: its lines", Make.piece(x, s, 1), 1, 0, 0, 1, 4, 1, 3);
    }

    private static void storyHasSixPieces() {
        PageOne x = Make.desk(9);
        int s = Make.story(x, 1, 20);
        for (int k = 0; k < 6; k++) {
            Due.is("II: piece " + k, x.put(s, 0, 0, k, 1), k + 1);
        }
        Due.is("II: the seventh", x.put(s, 0, 0, 6, 1), -1);
        Due.is("II: six", x.item(s, 1), 6);
        Due.are("23: the sixth", Make.piece(x, s, 5), 0, 0, 5, 1, 1, 5, 1);
        Due.is("23: piece 6", x.piece(s, 6, 0), -1);
        Due.is("23: piece -1", x.piece(s, -1, 0), -1);
        Due.is("23: what -1", x.piece(s, 0, -1), -1);
        Due.is("23: what 7", x.piece(s, 0, 7), -1);
        Due.is("23: item -1", x.piece(-1, 0, 0), -1);
        Due.is("23: item 1", x.piece(1, 0, 0), -1);
        x.lift(s);
        Due.is("23: it was lifted", x.piece(s, 5, 0), -1);
    }

    private static void paidWhereSold() {
        PageOne x = Make.desk(5, 5, 5);
        Make.columns(x, 1, 5, 5, 5);
        int p = x.paid(2, 0, 1, 2, 2, 3, 7);
        Due.is("II: another page", x.put(p, 1, 1, 2, 0), -1);
        Due.is("II: another column", x.put(p, 0, 0, 2, 0), -1);
        Due.is("II: another line", x.put(p, 0, 1, 1, 0), -1);
        Due.is("II: how 1", x.put(p, 0, 1, 2, 1), -1);
        Due.is("II: where it was sold", x.put(p, 0, 1, 2, 0), 1);
        Due.are("II: its piece", Make.piece(x, p, 0), 0, 1, 2, 2, 3, 0, 0);
        Due.is("II: once", x.put(p, 0, 1, 2, 0), -1);
        int q = x.paid(2, 0, 2, 4, 1, 1, 7);
        Due.is("II: its cells are taken", x.put(q, 0, 2, 4, 0), -1);
        int r = x.paid(2, 0, 1, 5, 1, 1, 7);
        Due.is("II: there is no such cell", x.put(r, 0, 1, 5, 0), -1);
    }

    private static void noticeWhereItMay() {
        PageOne x = new PageOne();
        Make.columns(x, 0, 3, 3);
        Make.columns(x, 1, 3, 3, 3);
        Make.columns(x, 2, 3);
        int f = x.filler(1, 1);
        x.put(f, 1, 1, 2, 1);
        Make.ruleRest(x, 1);
        x.plate(1);
        int n = x.notice(f, 2);
        Due.is("II: the same day", x.put(n, 1, 1, 1, 0), -1);
        x.undo();
        x.edition();
        Due.is("II: the same day's next edition", x.put(n, 2, 0, 0, 0), -1);
        x.day();
        Due.is("II: an earlier page", x.put(n, 0, 1, 0, 0), -1);
        Due.is("II: an earlier column", x.put(n, 1, 0, 0, 0), -1);
        Due.is("II: how 1", x.put(n, 1, 1, 0, 1), -1);
        Due.is("II: too low", x.put(n, 1, 1, 2, 0), -1);
        Due.is("II: its column, higher up", x.put(n, 1, 1, 0, 0), 1);
        Due.are("II: its piece", Make.piece(x, n, 0), 1, 1, 0, 1, 2, 0, 0);
        Due.is("II: once", x.put(n, 1, 2, 0, 0), -1);
        x.lift(n);
        Due.is("II: a later column", x.put(n, 1, 2, 1, 0), 1);
        x.lift(n);
        Due.is("II: a later page, an earlier column", x.put(n, 2, 0, 1, 0), 1);
    }

    private static void noticeAfterItsDay() {
        PageOne x = Make.desk(1);
        int f = x.filler(1, 1);
        x.put(f, 0, 0, 0, 1);
        x.plate(0);
        int n = x.notice(f, 1);
        x.undo();
        x.rule(0, 0, 0);
        x.plate(0);
        x.day();
        Due.is("II: what it mends wasn't printed after all", x.put(n, 0, 0, 0, 0), -1);
        x.put(f, 0, 0, 0, 1);
        x.plate(0);
        x.day();
        Due.is("II: now it was", x.put(n, 0, 0, 0, 0), 1);
        x.day();
        Due.is("II: it was not printed, so it comes again", x.put(n, 0, 0, 0, 0), 1);
        x.plate(0);
        x.edition();
        x.lift(n);
        Due.is("II: the day on which it was printed", x.put(n, 0, 0, 0, 0), 1);
        x.plate(0);
        x.day();
        Due.is("II: the day behind it", x.put(n, 0, 0, 0, 0), -1);
        x.day();
        Due.is("II: two days behind it", x.put(n, 0, 0, 0, 0), -1);
    }

    private static void lifts() {
        PageOne x = Make.desk(9, 9);
        int s = Make.story(x, 1, 9);
        int h = x.head(s, 2, 2);
        Due.is("15: it has none", x.lift(s), -1);
        Due.is("15: no such item", x.lift(2), -1);
        Due.is("15: item -1", x.lift(-1), -1);
        Due.is("15: item 100", x.lift(100), -1);
        Due.is("15: no act", x.about(3), 0);
        x.put(s, 0, 0, 0, 2);
        x.put(s, 0, 0, 2, 3);
        x.put(h, 0, 0, 5, 0);
        Due.is("15: the head", x.lift(h), 0);
        Due.is("15: its cells", x.cell(0, 1, 6), -2);
        Due.is("15: the story's last", x.lift(s), 1);
        Due.are("15: the cells", Make.column(x, 0, 0, 9), 0, 0, -2, -2, -2, -2, -2, -2, -2);
        Due.is("15: the story's first", x.lift(s), 0);
        Due.is("15: no more", x.lift(s), -1);
        Due.is("15: acts", x.about(3), 6);
    }

    private static void rules() {
        PageOne x = Make.desk(3);
        int f = x.filler(1, 1);
        x.put(f, 0, 0, 1, 1);
        Due.yes("16: an empty cell", x.rule(0, 0, 0));
        Due.is("16: it stands", x.cell(0, 0, 0), 100);
        Due.no("16: a rule's", x.rule(0, 0, 0));
        Due.no("16: a filler's", x.rule(0, 0, 1));
        Due.no("16: line 3", x.rule(0, 0, 3));
        Due.no("16: line -1", x.rule(0, 0, -1));
        Due.no("16: column 1", x.rule(0, 1, 0));
        Due.no("16: column 8", x.rule(0, 8, 0));
        Due.no("16: column -1", x.rule(0, -1, 0));
        Due.no("16: page 12", x.rule(12, 0, 0));
        Due.no("16: page -1", x.rule(-1, 0, 0));
        Due.is("16: acts", x.about(3), 2);
        Due.is("16: no item is lifted by a rule's number", x.lift(100), -1);
    }

    private static void fills() {
        PageOne x = Make.desk(6, 4);
        Due.is("17: page -1", x.fill(-1), -1);
        Due.is("17: page 12", x.fill(12), -1);
        Due.is("17: no fillers", x.fill(0), 0);
        Due.is("17: a page without columns", x.fill(5), 0);
        int wide = x.filler(2, 5);
        int small = x.filler(1, 2);
        int four = x.filler(4, 4);
        Due.is("17: no act", x.about(3), 0);
        x.rule(0, 0, 2);
        Due.is("17: three rows", x.fill(0), 2);
        Due.are("17: 2 go to the first, for 3 there is none", Make.column(x, 0, 0, 6),
                wide, wide, 100, -2, -2, -2);
        Due.are("17: 4 go to the third", Make.column(x, 0, 1, 4), four, four, four, four);
        Due.is("17: one act", x.about(3), 2);
        Due.are("17: a piece", Make.piece(x, four, 0), 0, 1, 0, 1, 4, 0, 0);
        x.rule(0, 0, 4);
        Due.is("17: the first of two rows", x.fill(0), 1);
        Due.are("17: small came once", Make.column(x, 0, 0, 6), wide, wide, 100, small, 100, -2);
        Due.is("17: all stand", x.fill(0), 0);
        Due.is("17: none, no act", x.about(3), 4);
    }

    private static void fillsByNumber() {
        PageOne x = Make.desk(3, 3);
        Make.columns(x, 1, 3);
        int a = x.filler(1, 3);
        int b = x.filler(3, 3);
        int c = x.filler(3, 60);
        x.put(a, 1, 0, 0, 2);
        Due.is("17: those that don't stand", x.fill(0), 2);
        Due.is("17: the lower number first", x.cell(0, 0, 0), b);
        Due.is("17: then the other", x.cell(0, 1, 2), c);
        Due.is("17: the other page is left alone", x.cell(1, 0, 2), -2);
    }

    private static void fillsEachRow() {
        PageOne x = Make.desk(8);
        int two = x.filler(2, 2);
        int three = x.filler(3, 3);
        x.filler(5, 6);
        x.rule(0, 0, 2);
        x.rule(0, 0, 6);
        Due.is("17: rows of 2, 3 and 1", x.fill(0), 2);
        Due.are("17: each row by itself", Make.column(x, 0, 0, 8), two, two, 100, three, three, three, 100, -2);
    }

    private static void undoes() {
        PageOne x = Make.desk(5, 5);
        Make.columns(x, 1, 5);
        int s = Make.story(x, 1, 9);
        int h = x.head(s, 2, 1);
        Due.is("18: none is kept", x.undo(), -1);
        x.put(h, 0, 0, 0, 0);
        x.put(s, 0, 0, 1, 3);
        x.put(s, 1, 0, 0, 3);
        x.rule(1, 0, 4);
        x.lift(s);
        x.lift(h);
        Due.is("18: the head is back", x.undo(), 5);
        Due.is("18: its right cell", x.cell(0, 1, 0), h);
        Due.is("18: the story's second is back", x.undo(), 4);
        Due.are("18: its piece", Make.piece(x, s, 1), 1, 0, 0, 1, 3, 2, 2);
        Due.is("18: the rule is gone", x.undo(), 3);
        Due.are("18: page 1", Make.column(x, 1, 0, 5), s, s, s, -2, -2);
        Due.is("18: an edition keeps the acts", x.edition(), 1);
        Due.is("18: the second is gone", x.undo(), 2);
        Due.are("18: page 1 is empty", Make.column(x, 1, 0, 5), -2, -2, -2, -2, -2);
        Due.is("18: the first has three again", x.piece(s, 0, 6), 3);
        x.day();
        Due.is("18: the day before is over", x.undo(), -1);
        Due.is("18: nothing stands", x.shortOf(0, 0), 5);
    }

    private static void undoesFills() {
        PageOne x = Make.desk(2, 2);
        int a = x.filler(2, 2);
        int b = x.filler(2, 2);
        x.fill(0);
        x.lift(a);
        x.rule(0, 0, 0);
        Due.is("18: the rule", x.undo(), 2);
        Due.is("18: the lift", x.undo(), 1);
        Due.is("18: it is back", x.cell(0, 0, 1), a);
        Due.is("18: the fill as one", x.undo(), 0);
        Due.is("18: a is gone", x.item(a, 1), 0);
        Due.is("18: b is gone", x.item(b, 1), 0);
        Due.is("18: the cells are empty", x.shortOf(0, 0) + x.shortOf(0, 1), 4);
        Due.is("18: both come again", x.fill(0), 2);
    }

    private static void threeHundredActs() {
        PageOne x = Make.desk(2);
        int f = x.filler(1, 1);
        int g = x.filler(1, 1);
        for (int i = 0; i < 150; i++) {
            x.put(f, 0, 0, 0, 1);
            x.lift(f);
        }
        Due.is("14: 300 acts", x.about(3), 300);
        Due.is("14: put", x.put(f, 0, 0, 0, 1), -1);
        Due.no("16: rule", x.rule(0, 0, 0));
        Due.is("17: fill", x.fill(0), -1);
        Due.is("17: fill of a page without columns", x.fill(3), -1);
        Due.is("18: one is taken back", x.undo(), 299);
        Due.is("14: one may come", x.put(g, 0, 0, 1, 1), 1);
        Due.is("15: lift", x.lift(f), -1);
        Due.is("14: both stand", x.shortOf(0, 0), 0);
        Due.is("19: plating is no act", x.plate(0), 2);
        Due.is("21: the next day", x.day(), 1);
        Due.is("14: it may come again", x.put(f, 0, 0, 0, 1), 1);
    }

    private static void cellsAndShorts() {
        PageOne x = Make.desk(3, 0, 2);
        int f = x.filler(2, 2);
        x.put(f, 0, 0, 1, 2);
        x.rule(0, 2, 0);
        Due.are("22: column 0", Make.column(x, 0, 0, 4), -2, f, f, -1);
        Due.is("22: a column of no lines", x.cell(0, 1, 0), -1);
        Due.is("22: a rule", x.cell(0, 2, 0), 100);
        Due.is("22: page -1", x.cell(-1, 0, 0), -1);
        Due.is("22: page 12", x.cell(12, 0, 0), -1);
        Due.is("22: column -1", x.cell(0, -1, 0), -1);
        Due.is("22: column 8", x.cell(0, 8, 0), -1);
        Due.is("22: line -1", x.cell(0, 0, -1), -1);
        Due.is("22: far off", x.cell(0, 0, Integer.MAX_VALUE), -1);
        Due.is("25: column 0", x.shortOf(0, 0), 1);
        Due.is("25: a column of no lines", x.shortOf(0, 1), 0);
        Due.is("25: column 2", x.shortOf(0, 2), 1);
        Due.is("25: column -1", x.shortOf(0, -1), -1);
        Due.is("25: column 8", x.shortOf(0, 8), -1);
        Due.is("25: page -1", x.shortOf(-1, 0), -1);
        Due.is("25: page 12", x.shortOf(12, 0), -1);
    }
}
