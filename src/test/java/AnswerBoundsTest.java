/** The boundaries of promises 22 to 25: what is asked of cells, pieces, items and columns. */
public final class AnswerBoundsTest {
    public static void main(String[] args) {
        cellNumbers();
        cellsOfShortColumns();
        cellSigns();
        pieceNumbers();
        piecesOfEachKind();
        pieceTakes();
        itemNumbers();
        itemsOfEachKind();
        itemStands();
        shortOfNumbers();
        shortOfCounts();
        askingChangesNothing();
        Due.end();
    }

    private static PageOne cornered() {
        PageOne x = new PageOne();
        for (int page = 0; page < 12; page += 11) {
            for (int column = 0; column < 8; column += 7) {
                x.column(page, column, 60);
            }
        }
        return x;
    }

    private static void cellNumbers() {
        PageOne x = cornered();
        Bounds.are("22: page", 0, 11, p -> x.cell(p, 7, 59) == -2);
        Bounds.are("22: column", 0, 7, c -> x.cell(11, c, 59) == -2);
        Bounds.are("22: line", 0, 59, l -> x.cell(11, 7, l) == -2);
        for (int[] far : new int[][] {{-1, -1, -1}, {12, 8, 60}, {Integer.MIN_VALUE, 0, 0},
            {0, Integer.MIN_VALUE, Integer.MIN_VALUE}, {0, Integer.MAX_VALUE, Integer.MAX_VALUE}, {0, 1, -60}, {0, -1, 60}}) {
            Due.is("22: none such", x.cell(far[0], far[1], far[2]), -1);
        }
    }

    private static void cellsOfShortColumns() {
        PageOne x = Make.desk(3, 0, 1);
        Bounds.are("22: line of a column of three", 0, 2, l -> x.cell(0, 0, l) == -2);
        Bounds.are("22: line of a column of one", 0, 0, l -> x.cell(0, 2, l) == -2);
        Due.is("22: a column of no lines", x.cell(0, 1, 0), -1);
        Due.is("22: a column that never had lines", x.cell(0, 3, 0), -1);
        Due.is("22: a page without columns", x.cell(1, 0, 0), -1);
    }

    private static void cellSigns() {
        PageOne x = Make.desk(4);
        for (int i = 0; i < 79; i++) {
            x.filler(1, 1);
        }
        int last = x.filler(1, 1);
        x.put(0, 0, 0, 0, 1);
        x.put(last, 0, 0, 1, 1);
        x.rule(0, 0, 2);
        Due.are("22: item 0, item 79, a rule, empty, none", Make.column(x, 0, 0, 5), 0, 79, 100, -2, -1);
        x.lift(0);
        Due.is("22: empty again", x.cell(0, 0, 0), -2);
        x.undo();
        Due.is("22: item 0 again", x.cell(0, 0, 0), 0);
        x.day();
        Due.are("22: the next day", Make.column(x, 0, 0, 5), -2, -2, -2, -2, -1);
    }

    private static PageOne sixPieced() {
        PageOne x = Make.desk(9);
        Make.story(x, 1, 9);
        for (int k = 0; k < 6; k++) {
            x.put(0, 0, 0, k + 1, 1);
        }
        return x;
    }

    private static void pieceNumbers() {
        PageOne x = sixPieced();
        Bounds.are("23: k", 0, 5, k -> x.piece(0, k, 2) == k + 1);
        Bounds.are("23: what", 0, 6, what -> x.piece(0, 3, what) != -1);
        Bounds.are("23: item", 0, 0, i -> x.piece(i, 0, 0) == 0);
        x.lift(0);
        Bounds.are("23: k of five", 0, 4, k -> x.piece(0, k, 2) == k + 1);
        for (int k = 0; k < 5; k++) {
            x.lift(0);
        }
        for (int k = -1; k < 7; k++) {
            Due.is("23: none is left", x.piece(0, k, 0), -1);
        }
    }

    private static void piecesOfEachKind() {
        PageOne x = Desks.morning();
        for (int item = 0; item < Desks.ITEMS; item++) {
            Due.is("23: nothing stands", x.piece(item, 0, 0), -1);
            Due.is("23: nor its lines", x.piece(item, 0, 5), -1);
            Due.is("23: nor how many", x.piece(item, 0, 6), -1);
        }
        x.put(Desks.HEAD, 0, 0, 0, 0);
        x.put(Desks.PICTURE, 0, 0, 2, 0);
        x.put(Desks.PAID, 0, 2, 0, 0);
        x.put(Desks.FILLER, 1, 1, 3, 1);
        x.put(Desks.NOTICE, 2, 0, 2, 0);
        Due.are("23: a head", Make.piece(x, Desks.HEAD, 0), 0, 0, 0, 2, 1, 0, 0);
        Due.are("23: a picture", Make.piece(x, Desks.PICTURE, 0), 0, 0, 2, 2, 1, 0, 0);
        Due.are("23: a square", Make.piece(x, Desks.PAID, 0), 0, 2, 0, 1, 2, 0, 0);
        Due.are("23: a filler", Make.piece(x, Desks.FILLER, 0), 1, 1, 3, 1, 1, 0, 0);
        Due.are("23: a notice", Make.piece(x, Desks.NOTICE, 0), 2, 0, 2, 1, 2, 0, 0);
        for (int item : new int[] {Desks.HEAD, Desks.PICTURE, Desks.PAID, Desks.FILLER, Desks.NOTICE}) {
            for (int wrong : Bounds.beyond(0, 0)) {
                Due.is("23: piece " + wrong + " of one", x.piece(item, wrong, 0), -1);
            }
            for (int wrong : Bounds.beyond(0, 6)) {
                Due.is("23: what " + wrong, x.piece(item, 0, wrong), -1);
            }
        }
        for (int item : Bounds.beyond(0, Desks.ITEMS - 1)) {
            Due.is("23: item " + item, x.piece(item, 0, 0), -1);
        }
    }

    private static void pieceTakes() {
        PageOne x = Desks.busy();
        Due.are("23: from line 0", Make.piece(x, Desks.STORY, 0), 0, 0, 1, 1, 3, 0, 2);
        Due.are("23: from line 2", Make.piece(x, Desks.STORY, 1), 1, 0, 0, 1, 3, 2, 2);
        x.put(Desks.STORY, 1, 0, 3, 1);
        Due.are("23: from line 4", Make.piece(x, Desks.STORY, 2), 1, 0, 3, 1, 1, 4, 1);
        PageOne y = Make.desk(60, 60);
        int s = Make.story(y, 1, 80);
        y.put(s, 0, 0, 0, 60);
        y.put(s, 0, 1, 0, 20);
        Due.are("23: sixty lines", Make.piece(y, s, 0), 0, 0, 0, 1, 60, 0, 60);
        Due.are("23: from line 60 to the last", Make.piece(y, s, 1), 0, 1, 0, 1, 20, 60, 20);
    }

    private static void itemNumbers() {
        PageOne x = Desks.full();
        Bounds.are("24: item of eighty", 0, 79, i -> x.item(i, 0) == (i == 0 ? 0 : 4));
        PageOne y = Desks.morning();
        Bounds.are("24: item of seven", 0, 6, i -> y.item(i, 1) == 0);
        Due.is("24: a rule's number", y.item(100, 0), -1);
        for (int what : Bounds.beyond(0, 5)) {
            for (int item : Desks.KINDS) {
                Due.is("24: what " + what + " of item " + item, y.item(item, what), -1);
            }
        }
        Bounds.are("24: what of a picture", 0, 1, what -> y.item(Desks.PICTURE, what) != -1);
    }

    private static void itemsOfEachKind() {
        PageOne x = Desks.busy();
        Due.are("24: a story", Make.item(x, Desks.STORY), 0, 2, 8, 4, -1, -1);
        Due.are("24: a head", Make.item(x, Desks.HEAD), 1, 1, -1, -1, Desks.STORY, -1);
        Due.are("24: a picture", Make.item(x, Desks.PICTURE), 2, 0, -1, -1, -1, -1);
        Due.are("24: a square", Make.item(x, Desks.PAID), 3, 0, -1, -1, -1, 1);
        Due.are("24: a filler", Make.item(x, Desks.FILLER), 4, 1, -1, -1, -1, -1);
        Due.are("24: a notice", Make.item(x, Desks.NOTICE), 5, 0, -1, -1, Desks.LONG_FILLER, -1);
        PageOne y = new PageOne();
        Due.is("24: a square of buyer 0", y.item(y.paid(0, 0, 0, 0, 1, 1, 1), 5), 0);
        Due.is("24: a square of buyer 9", y.item(y.paid(9, 0, 0, 0, 1, 1, 1), 5), 9);
    }

    private static void itemStands() {
        PageOne x = Make.desk(60, 60);
        int s = x.story(1);
        Due.are("24: no line has come", Make.item(x, s), 0, 0, 0, 0, -1, -1);
        for (int i = 1; i <= 80; i++) {
            x.line(s, 10);
            Due.is("24: lines that have come", x.item(s, 2), i);
        }
        Due.is("24: none stands", x.item(s, 3), 0);
        x.put(s, 0, 0, 0, 1);
        Due.is("24: one stands", x.item(s, 3), 1);
        x.put(s, 0, 0, 1, 59);
        x.put(s, 0, 1, 0, 20);
        Due.are("24: all eighty", Make.item(x, s), 0, 3, 80, 80, -1, -1);
        x.undo();
        Due.are("24: sixty", Make.item(x, s), 0, 2, 80, 60, -1, -1);
    }

    private static void shortOfNumbers() {
        PageOne x = cornered();
        Bounds.are("25: page", 0, 11, p -> x.shortOf(p, 7) == 60);
        Bounds.are("25: column", 0, 7, c -> x.shortOf(11, c) == 60);
        for (int page : Bounds.beyond(0, 11)) {
            Due.is("25: page " + page, x.shortOf(page, 0), -1);
        }
        for (int column : Bounds.beyond(0, 7)) {
            Due.is("25: column " + column, x.shortOf(0, column), -1);
        }
        Due.is("25: a column that never had lines", x.shortOf(0, 1), 0);
        Due.is("25: a page without columns", x.shortOf(5, 5), 0);
        Due.yes("25: its lines go", x.column(0, 0, 0));
        Due.is("25: no lines", x.shortOf(0, 0), 0);
    }

    private static void shortOfCounts() {
        PageOne x = Make.desk(3, 3);
        for (int line = 0; line < 3; line++) {
            Due.is("25: so many are empty", x.shortOf(0, 0), 3 - line);
            x.rule(0, 0, line);
        }
        Due.is("25: none", x.shortOf(0, 0), 0);
        Due.is("25: the other column", x.shortOf(0, 1), 3);
        x.undo();
        Due.is("25: one again", x.shortOf(0, 0), 1);
        x.day();
        Due.is("25: all again", x.shortOf(0, 0), 3);
    }

    /** Answers to questions that can't be answered leave the desk as it was, too. */
    private static void askingChangesNothing() {
        Twins.none("22: cell", Desks::busy, x -> x.cell(0, 0, 60));
        Twins.none("23: piece", Desks::busy, x -> x.piece(Desks.STORY, 2, 0));
        Twins.none("24: item", Desks::busy, x -> x.item(Desks.STORY, 6));
        Twins.none("25: shortOf", Desks::busy, x -> x.shortOf(12, 0));
        Twins.none("26: broken", Desks::busy, x -> x.broken(0, 3));
        Twins.none("27: printed", Desks::busy, x -> x.printed(Desks.STORY, 0));
        Twins.none("28: plated", Desks::busy, x -> x.plated(0, 0, 0));
        Twins.none("29: plateOf", Desks::busy, x -> x.plateOf(0, 0));
        Twins.none("30: bill", Desks::busy, x -> x.bill(1, 2));
        Twins.none("31: about", Desks::busy, x -> x.about(5));
    }
}
