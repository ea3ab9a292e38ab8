import java.util.function.Supplier;

/** The boundaries of promises 14 to 18 and of part II: what may stand, is lifted, ruled, filled and taken back. */
public final class ActBoundsTest {
    public static void main(String[] args) {
        putNumbers();
        putOfNoItem();
        putHow();
        putToTheColumnsEnd();
        putSideBySide();
        putOnWhatIsTaken();
        allCellsAreTaken();
        onePieceOfOthers();
        sixPieces();
        theNextPieceIsBehind();
        turningThePage();
        turningTwice();
        allLinesHaveCome();
        noneIsWiderThanTheMeasure();
        theTurnedLineIsMeasuredAnew();
        paidWhereSold();
        noticePlaces();
        noticeDays();
        noticeNotBehindItsOwnDay();
        lifts();
        liftsToTheFirst();
        ruleNumbers();
        rulesOnWhatIsTaken();
        fillNumbers();
        fillRows();
        fillsAsLongAsCanBe();
        fillsNone();
        eightyFillers();
        undoWithoutActs();
        undoEachAct();
        undoOfThisDay();
        threeHundredActs();
        Due.end();
    }

    private static PageOne wholePaper() {
        PageOne x = new PageOne();
        for (int page = 0; page < 12; page++) {
            for (int column = 0; column < 8; column++) {
                x.column(page, column, 60);
            }
        }
        return x;
    }

    private static boolean stands(PageOne x, int item, int page, int column, int line, int how) {
        return x.put(item, page, column, line, how) == 1 && x.cell(page, column, line) == item
                && x.piece(item, 0, 0) == page && x.piece(item, 0, 1) == column && x.piece(item, 0, 2) == line;
    }

    private static void putNumbers() {
        Bounds.are("14: page", 0, 11, p -> {
            PageOne x = wholePaper();
            return stands(x, x.filler(1, 1), p, 3, 3, 1);
        });
        Bounds.are("14: column", 0, 7, c -> {
            PageOne x = wholePaper();
            return stands(x, x.filler(1, 1), 3, c, 3, 1);
        });
        Bounds.are("14: line", 0, 59, l -> {
            PageOne x = wholePaper();
            return stands(x, x.filler(1, 1), 3, 3, l, 1);
        });
        for (int page : Bounds.beyond(0, 11)) {
            Twins.none("14: page " + page, Desks::busy, x -> x.put(Desks.PICTURE, page, 0, 0, 0));
        }
        for (int column : Bounds.beyond(0, 7)) {
            Twins.none("14: column " + column, Desks::busy, x -> x.put(Desks.LONG_FILLER, 2, column, 0, 4));
        }
        for (int line : Bounds.beyond(0, 3)) {
            Twins.none("14: line " + line, Desks::busy, x -> x.put(Desks.STORY, 2, 0, line, 2));
        }
    }

    private static void putOfNoItem() {
        for (int item : Bounds.beyond(0, Desks.ITEMS - 1)) {
            Twins.none("14: item " + item, Desks::busy, x -> x.put(item, 2, 0, 0, 1));
            Twins.none("15: item " + item, Desks::busy, x -> x.lift(item));
        }
        Twins.none("14: a rule's number", Desks::busy, x -> x.put(100, 2, 0, 0, 0));
        Twins.none("15: a rule's number", Desks::busy, x -> x.lift(100));
        Twins.none("14: a new desk", Desks::fresh, x -> x.put(0, 0, 0, 0, 0));
    }

    private static void putHow() {
        Bounds.are("14: a story's lines", 1, 5, n -> {
            PageOne x = Make.desk(60);
            int s = Make.story(x, 1, 5);
            return stands(x, s, 0, 0, 0, n) && x.piece(s, 0, 4) == n && x.item(s, 3) == n;
        });
        Bounds.are("14: a long story's lines", 1, 60, n -> {
            PageOne x = Make.desk(60);
            int s = Make.story(x, 1, 80);
            return stands(x, s, 0, 0, 0, n) && x.piece(s, 0, 6) == n;
        });
        Bounds.are("14: a filler's lines", 3, 5, n -> {
            PageOne x = Make.desk(60);
            return stands(x, x.filler(3, 5), 0, 0, 0, n) && x.piece(0, 0, 4) == n;
        });
        Bounds.are("14: a picture's size", 0, 1, n -> {
            PageOne x = Desks.morning();
            return stands(x, Desks.PICTURE, 0, 0, 0, n) && x.piece(Desks.PICTURE, 0, 4) == n + 1;
        });
        Bounds.are("14: a head", 0, 0, n -> stands(Desks.morning(), Desks.HEAD, 0, 0, 0, n));
        Bounds.are("14: a square", 0, 0, n -> stands(Desks.morning(), Desks.PAID, 0, 2, 0, n));
        Bounds.are("14: a notice", 0, 0, n -> stands(Desks.morning(), Desks.NOTICE, 2, 0, 0, n));
        for (int item : Desks.KINDS) {
            for (int how : Bounds.beyond(0, 60)) {
                Twins.none("14: how " + how + " of item " + item, Desks::morning, x -> x.put(item, 0, 2, 0, how));
            }
        }
        Twins.none("14: a story of none", Desks::morning, x -> x.put(Desks.STORY, 0, 0, 0, 0));
        Twins.none("14: a filler of none", Desks::morning, x -> x.put(Desks.FILLER, 0, 0, 0, 0));
        Twins.none("14: a size it hasn't", Desks::morning, x -> x.put(Desks.PICTURE, 0, 0, 0, 2));
    }

    private static void putToTheColumnsEnd() {
        PageOne x = Make.desk(5, 0, 1);
        int s = Make.story(x, 1, 9);
        Due.is("14: one line beyond the column", x.put(s, 0, 0, 0, 6), -1);
        Due.is("14: its last line and one beyond", x.put(s, 0, 0, 4, 2), -1);
        Due.is("14: behind its last line", x.put(s, 0, 0, 5, 1), -1);
        Due.is("14: a column of no lines", x.put(s, 0, 1, 0, 1), -1);
        Due.is("14: a column that never had lines", x.put(s, 0, 7, 0, 1), -1);
        Due.is("14: two lines of a column of one", x.put(s, 0, 2, 0, 2), -1);
        Due.is("14: no act yet", x.about(3), 0);
        Due.is("14: the whole column", x.put(s, 0, 0, 0, 5), 1);
        Due.is("14: it is full", x.shortOf(0, 0), 0);
        Due.is("14: the column of one line", x.put(s, 0, 2, 0, 1), 2);
    }

    private static void putSideBySide() {
        PageOne x = Make.desk(3, 3, 2, 3, 0, 3, 3, 3);
        int s = x.story(1);
        int two = x.head(s, 2, 3);
        int three = x.head(s, 3, 2);
        Due.is("II: the right column is too short", x.put(two, 0, 1, 0, 0), -1);
        Due.is("II: the left column is too short", x.put(two, 0, 2, 0, 0), -1);
        Due.is("II: the right column has no lines", x.put(two, 0, 3, 0, 0), -1);
        Due.is("II: the left column has no lines", x.put(two, 0, 4, 0, 0), -1);
        Due.is("II: beyond the last column", x.put(two, 0, 7, 0, 0), -1);
        Due.is("II: the last two columns", x.put(two, 0, 6, 0, 0), 1);
        Due.is("II: the middle column is long enough", x.put(three, 0, 1, 0, 0), 1);
        x.lift(three);
        Due.is("II: the middle column is a line too short", x.put(three, 0, 1, 1, 0), -1);
        Due.is("II: from column 0", x.put(three, 0, 0, 0, 0), 1);
        Due.are("II: its last column", Make.column(x, 0, 2, 3), three, three, -1);
        Due.are("II: the one behind is free", Make.column(x, 0, 3, 3), -2, -2, -2);
    }

    private static void putOnWhatIsTaken() {
        for (int line = 0; line < 9; line++) {
            PageOne x = Make.desk(9, 9, 9);
            int s = x.story(1);
            int h = x.head(s, 3, 3);
            x.rule(0, line % 3, line);
            boolean meets = line >= 3 && line < 6;
            Due.is("II: a rule in line " + line, x.put(h, 0, 0, 3, 0), meets ? -1 : 1);
            Due.is("II: the acts", x.about(3), meets ? 1 : 2);
            Due.is("II: the cells", x.shortOf(0, 0) + x.shortOf(0, 1) + x.shortOf(0, 2), meets ? 26 : 17);
        }
        Twins.none("II: on a head", Desks::busy, x -> x.put(Desks.PICTURE, 0, 0, 0, 0));
        Twins.none("II: half on a head, from its right column on", Desks::busy, x -> x.put(Desks.PICTURE, 0, 1, 0, 0));
        Twins.none("II: half on a head, from its right column down", Desks::busy, x -> x.put(Desks.PICTURE, 0, 1, 0, 1));
        Twins.none("II: on a story", Desks::busy, x -> x.put(Desks.PICTURE, 0, 0, 2, 1));
        Twins.none("II: half on a story", Desks::busy, x -> x.put(Desks.PICTURE, 0, 0, 1, 0));
        Twins.none("II: on a rule", Desks::busy, x -> x.put(Desks.STORY, 11, 7, 0, 2));
        Twins.none("II: on another story's cells", Desks::busy, x -> x.put(Desks.LONG_FILLER, 1, 0, 1, 3));
        Due.is("II: right beside them", Desks.busy().put(Desks.LONG_FILLER, 1, 1, 0, 3), 1);
    }

    private static PageOne fullPage() {
        PageOne x = Make.desk(60, 60, 60, 60, 60, 60, 60, 60);
        int p = x.picture();
        x.size(p, 8, 60);
        Due.is("II: a picture as large as the page", x.put(p, 0, 0, 0, 0), 1);
        int s = Make.story(x, 1, 2);
        x.head(s, 1, 1);
        x.paid(0, 0, 7, 59, 1, 1, 1);
        x.filler(1, 60);
        return x;
    }

    private static void allCellsAreTaken() {
        Twins.none("14: no room for a story", ActBoundsTest::fullPage, x -> x.put(1, 0, 0, 0, 1));
        Twins.none("14: no room for a head", ActBoundsTest::fullPage, x -> x.put(2, 0, 3, 30, 0));
        Twins.none("14: no room for a square", ActBoundsTest::fullPage, x -> x.put(3, 0, 7, 59, 0));
        Twins.none("14: no room for a filler", ActBoundsTest::fullPage, x -> x.put(4, 0, 7, 59, 1));
        Twins.no("16: no room for a rule", ActBoundsTest::fullPage, x -> x.rule(0, 7, 59));
        PageOne x = fullPage();
        Due.is("17: no row is left", x.fill(0), 0);
        Due.is("17: so it is no act", x.about(3), 1);
        x.lift(0);
        Due.is("14: room again", x.put(3, 0, 7, 59, 0), 1);
        Due.is("17: rows again, of which the first is the filler's", x.fill(0), 1);
        Due.is("17: it has a whole column", x.piece(4, 0, 4), 60);
    }

    private static void onePieceOfOthers() {
        PageOne x = Desks.morning();
        int[] items = {Desks.HEAD, Desks.PICTURE, Desks.FILLER, Desks.NOTICE};
        int[][] spots = {{0, 0, 0, 0}, {0, 0, 1, 0}, {0, 0, 2, 1}, {2, 0, 0, 0}};
        int[][] others = {{1, 0, 0, 0}, {1, 0, 1, 0}, {1, 0, 2, 1}, {2, 0, 2, 0}};
        for (int i = 0; i < items.length; i++) {
            int[] at = spots[i];
            int[] to = others[i];
            Due.is("II: its one piece, item " + items[i], x.put(items[i], at[0], at[1], at[2], at[3]), 1);
            Due.is("II: not two, item " + items[i], x.put(items[i], to[0], to[1], to[2], to[3]), -1);
            Due.is("II: it has one", x.item(items[i], 1), 1);
        }
        Due.is("II: no other acts", x.about(3), 4);
        for (int i = 0; i < items.length; i++) {
            int[] to = others[i];
            Due.is("15: lifted", x.lift(items[i]), 0);
            Due.is("II: it may come elsewhere, item " + items[i], x.put(items[i], to[0], to[1], to[2], to[3]), 1);
        }
        Due.is("II: the square", x.put(Desks.PAID, 0, 2, 0, 0), 1);
        Due.is("II: not two of it", x.put(Desks.PAID, 0, 2, 0, 0), -1);
        x.lift(Desks.PAID);
        Due.is("II: it may come again", x.put(Desks.PAID, 0, 2, 0, 0), 1);
    }

    private static PageOne sixPieced() {
        PageOne x = Make.desk(9, 9);
        Make.columns(x, 1, 9);
        int s = Make.story(x, 1, 20);
        for (int k = 0; k < 6; k++) {
            Due.is("II: piece " + k, x.put(s, 0, k / 3, k % 3, 1), k + 1);
        }
        return x;
    }

    private static void sixPieces() {
        Twins.none("II: a seventh in the same column", ActBoundsTest::sixPieced, x -> x.put(0, 0, 1, 3, 1));
        Twins.none("II: a seventh on a later page", ActBoundsTest::sixPieced, x -> x.put(0, 1, 0, 0, 2));
        PageOne x = sixPieced();
        Due.is("II: six lines stand", x.item(0, 3), 6);
        Due.is("II: the sixth goes", x.lift(0), 5);
        Due.is("II: another sixth comes", x.put(0, 0, 1, 8, 1), 6);
        Due.is("II: not a seventh", x.put(0, 1, 0, 0, 2), -1);
    }

    /** A story's first piece stands on page 1, column 1, lines 3 and 4; where may the next one begin? */
    private static void theNextPieceIsBehind() {
        Supplier<PageOne> made = () -> {
            PageOne x = new PageOne();
            for (int page = 0; page < 3; page++) {
                Make.columns(x, page, 7, 7, 7);
            }
            int s = Make.story(x, 1, 20);
            x.put(s, 1, 1, 3, 2);
            return x;
        };
        for (int page = 0; page < 3; page++) {
            for (int column = 0; column < 3; column++) {
                for (int line = 0; line < 6; line++) {
                    PageOne x = made.get();
                    boolean below = page == 1 && column == 1 && line >= 5;
                    boolean behind = below || page == 1 && column == 2 || page == 2;
                    int got = x.put(0, page, column, line, 2);
                    Due.is("II: page " + page + " column " + column + " line " + line, got, behind ? 2 : -1);
                }
            }
        }
        Twins.none("II: right above the last one", made, x -> x.put(0, 1, 1, 2, 1));
        Twins.none("II: the column before", made, x -> x.put(0, 1, 0, 6, 1));
        Twins.none("II: the page before", made, x -> x.put(0, 0, 2, 6, 1));
        PageOne x = made.get();
        x.put(0, 1, 1, 6, 1);
        Due.is("II: behind the first, but not behind the last", x.put(0, 1, 1, 5, 1), -1);
        x.lift(0);
        x.lift(0);
        Due.is("II: the first may stand anywhere", x.put(0, 0, 0, 0, 1), 1);
    }

    private static PageOne turning(int ahead) {
        PageOne x = new PageOne();
        for (int page = 0; page < 4; page++) {
            Make.columns(x, page, 9, 9);
        }
        int s = Make.story(x, 1, 20);
        Due.is("II: the piece ahead", x.put(s, 0, 0, 0, ahead), 1);
        return x;
    }

    private static void turningThePage() {
        Twins.none("II: one ahead of one cell would take none", () -> turning(1), x -> x.put(0, 1, 0, 0, 5));
        Twins.none("II: one behind of one cell would take none", () -> turning(5), x -> x.put(0, 1, 0, 0, 1));
        Twins.none("II: both", () -> turning(1), x -> x.put(0, 1, 0, 0, 1));
        PageOne x = turning(2);
        Due.is("II: two cells ahead, two behind", x.put(0, 1, 0, 0, 2), 2);
        Due.are("II: the one ahead takes one", Make.piece(x, 0, 0), 0, 0, 0, 1, 2, 0, 1);
        Due.are("II: the one behind takes the next", Make.piece(x, 0, 1), 1, 0, 0, 1, 2, 1, 1);
        Due.is("II: two stand", x.item(0, 3), 2);
        PageOne y = turning(2);
        Due.is("II: a page may be left out", y.put(0, 3, 1, 7, 2), 2);
        Due.is("II: it takes one", y.piece(0, 1, 6), 1);
        PageOne z = turning(1);
        Due.is("II: on the same page one cell is enough ahead", z.put(0, 0, 1, 0, 1), 2);
        Due.are("II: and behind", Make.piece(z, 0, 1), 0, 1, 0, 1, 1, 1, 1);
        Due.is("II: but the last one has one cell", z.put(0, 1, 0, 0, 3), -1);
        Due.is("II: with two it turns", z.lift(0) + z.put(0, 0, 1, 0, 2) + z.put(0, 1, 0, 0, 2), 6);
        Due.are("II: the first piece of the page keeps its line", Make.piece(z, 0, 0), 0, 0, 0, 1, 1, 0, 1);
        Due.are("II: the one that turns loses one", Make.piece(z, 0, 1), 0, 1, 0, 1, 2, 1, 1);
    }

    private static void turningTwice() {
        PageOne x = turning(2);
        x.put(0, 1, 0, 0, 2);
        Due.is("II: a middle one of two cells would take none", x.put(0, 2, 0, 0, 5), -1);
        Due.are("II: it still takes one", Make.piece(x, 0, 1), 1, 0, 0, 1, 2, 1, 1);
        Due.is("II: no act", x.about(3), 2);
        x.lift(0);
        x.put(0, 1, 0, 0, 3);
        Due.is("II: of three cells it takes one", x.put(0, 2, 0, 0, 2), 3);
        Due.are("II: the middle one", Make.piece(x, 0, 1), 1, 0, 0, 1, 3, 1, 1);
        Due.are("II: the last one", Make.piece(x, 0, 2), 2, 0, 0, 1, 2, 2, 1);
        Due.is("II: three stand", x.item(0, 3), 3);
        Due.is("II: the last one is lifted", x.lift(0), 2);
        Due.are("II: the middle one has it back", Make.piece(x, 0, 1), 1, 0, 0, 1, 3, 1, 2);
        Due.is("II: three stand still", x.item(0, 3), 3);
    }

    private static void allLinesHaveCome() {
        Bounds.are("II: of four lines", 1, 4, n -> {
            PageOne x = Make.desk(9);
            return x.put(Make.story(x, 1, 4), 0, 0, 0, n) == 1;
        });
        PageOne x = Make.desk(9);
        Make.columns(x, 1, 9);
        int s = x.story(1);
        Due.is("II: no line has come", x.put(s, 0, 0, 0, 1), -1);
        for (int i = 0; i < 4; i++) {
            x.line(s, 10);
        }
        x.put(s, 0, 0, 0, 3);
        Due.is("II: the fourth is left for the same page", x.put(s, 0, 0, 3, 2), -1);
        Due.is("II: on another the third comes again, but no fifth", x.put(s, 1, 0, 0, 4), -1);
        Due.is("II: the third and the fourth", x.put(s, 1, 0, 0, 3), 2);
        Due.is("II: all four stand", x.item(s, 3), 4);
        Due.is("II: no line is left", x.put(s, 1, 0, 3, 1), -1);
        x.line(s, 10);
        Due.is("II: one more has come", x.put(s, 1, 0, 3, 1), 3);
        Due.are("II: it takes the fifth", Make.piece(x, s, 2), 1, 0, 3, 1, 1, 4, 1);
    }

    private static void noneIsWiderThanTheMeasure() {
        for (int at = 0; at < 4; at++) {
            PageOne x = Make.desk(9);
            x.measure(0, 30);
            int s = x.story(1);
            for (int i = 0; i < 4; i++) {
                x.line(s, i == at ? 31 : 30);
            }
            for (int n = 1; n <= 4; n++) {
                Due.is("II: line " + at + " is too wide, " + n + " lines", x.put(s, 0, 0, 0, n), n <= at ? 1 : -1);
                x.lift(s);
            }
        }
        PageOne x = Make.desk(3);
        x.measure(0, 1);
        int s = x.story(1);
        x.line(s, 1);
        x.line(s, 2);
        Due.is("II: the least measure", x.put(s, 0, 0, 0, 2), -1);
        Due.is("II: and the least width", x.put(s, 0, 0, 0, 1), 1);
    }

    private static void theTurnedLineIsMeasuredAnew() {
        PageOne x = Make.desk(9);
        Make.columns(x, 1, 9);
        x.measure(0, 50);
        x.measure(1, 40);
        int s = x.story(1);
        for (int width : new int[] {50, 41, 40, 40}) {
            x.line(s, width);
        }
        x.put(s, 0, 0, 0, 2);
        Due.is("II: the line that turns is too wide there", x.put(s, 1, 0, 0, 2), -1);
        Due.are("II: and stays", Make.piece(x, s, 0), 0, 0, 0, 1, 2, 0, 2);
        x.put(s, 0, 0, 2, 1);
        Due.is("II: a piece of one cell has none to give", x.put(s, 1, 0, 0, 2), -1);
        x.lift(s);
        x.lift(s);
        x.put(s, 0, 0, 0, 3);
        Due.is("II: the line that turns now fits", x.put(s, 1, 0, 0, 3), 2);
        Due.are("II: from the third on", Make.piece(x, s, 1), 1, 0, 0, 1, 3, 2, 2);
    }

    private static void paidWhereSold() {
        Supplier<PageOne> made = () -> {
            PageOne x = new PageOne();
            for (int page = 0; page < 3; page++) {
                Make.columns(x, page, 6, 6, 6, 6);
            }
            x.paid(1, 1, 1, 2, 2, 2, 9);
            return x;
        };
        for (int page = 0; page < 3; page++) {
            for (int column = 0; column < 3; column++) {
                for (int line = 1; line < 4; line++) {
                    boolean sold = page == 1 && column == 1 && line == 2;
                    int got = made.get().put(0, page, column, line, 0);
                    Due.is("II: sold on 1 1 2, put on " + page + " " + column + " " + line, got, sold ? 1 : -1);
                }
            }
        }
        Twins.none("II: another line", made, x -> x.put(0, 1, 1, 3, 0));
        PageOne x = new PageOne();
        int p = x.paid(1, 1, 1, 2, 2, 2, 9);
        Due.is("II: a page without columns", x.put(p, 1, 1, 2, 0), -1);
        Make.columns(x, 1, 6, 4, 3);
        Due.is("II: one of its cells is not there", x.put(p, 1, 1, 2, 0), -1);
        x.column(1, 2, 4);
        Due.is("II: all are", x.put(p, 1, 1, 2, 0), 1);
    }

    /** A filler was printed on day 0 on page 1, column 1; its notice has three lines, and it is day 1. */
    private static PageOne mending() {
        PageOne x = new PageOne();
        for (int page = 0; page < 3; page++) {
            Make.columns(x, page, 3, 3, 3);
        }
        int f = x.filler(1, 1);
        x.put(f, 1, 1, 2, 1);
        Make.ruleRest(x, 1);
        x.plate(1);
        x.notice(f, 3);
        return x;
    }

    private static PageOne mendingNextDay() {
        PageOne x = mending();
        x.day();
        return x;
    }

    private static void noticePlaces() {
        for (int page = 0; page < 3; page++) {
            for (int column = 0; column < 3; column++) {
                boolean may = page == 2 || page == 1 && column >= 1;
                int got = mendingNextDay().put(1, page, column, 0, 0);
                Due.is("II: a notice on page " + page + " column " + column, got, may ? 1 : -1);
            }
        }
        Twins.none("II: the page before", ActBoundsTest::mendingNextDay, x -> x.put(1, 0, 2, 0, 0));
        Twins.none("II: the column before", ActBoundsTest::mendingNextDay, x -> x.put(1, 1, 0, 0, 0));
        Twins.none("II: a line too low", ActBoundsTest::mendingNextDay, x -> x.put(1, 1, 1, 1, 0));

        PageOne x = Make.desk(1, 1, 1, 1);
        int p = x.picture();
        x.size(p, 3, 1);
        x.put(p, 0, 1, 0, 0);
        x.rule(0, 0, 0);
        x.plate(0);
        int n = x.notice(p, 1);
        x.day();
        Due.is("II: left of the first column", x.put(n, 0, 0, 0, 0), -1);
        Due.is("II: its first column", x.put(n, 0, 1, 0, 0), 1);

        PageOne y = Make.desk(2, 2);
        int s = Make.story(y, 1, 3);
        y.put(s, 0, 0, 1, 1);
        y.put(s, 0, 1, 0, 2);
        y.rule(0, 0, 0);
        y.plate(0);
        int m = y.notice(s, 1);
        y.day();
        Due.is("II: the first piece's column, of a story of two", y.put(m, 0, 0, 0, 0), 1);
    }

    private static void noticeDays() {
        PageOne x = mending();
        x.lift(0);
        Due.is("II: the day of the printing", x.put(1, 2, 0, 0, 0), -1);
        for (int e = 1; e <= 7; e++) {
            x.edition();
        }
        Due.is("II: its last edition", x.put(1, 2, 0, 0, 0), -1);
        x.day();
        Due.is("II: the day behind", x.put(1, 2, 0, 0, 0), 1);
        x.day();
        x.day();
        Due.is("II: any later day, when it was not printed", x.put(1, 1, 2, 0, 0), 1);

        PageOne y = Make.desk(1);
        Make.columns(y, 1, 1);
        int f = y.filler(1, 1);
        y.put(f, 1, 0, 0, 1);
        y.plate(1);
        int n = y.notice(f, 1);
        y.day();
        y.put(f, 0, 0, 0, 1);
        y.plate(0);
        y.day();
        Due.is("II: the first printing counts, not an earlier page of a later day", y.put(n, 0, 0, 0, 0), -1);
        Due.is("II: its page", y.put(n, 1, 0, 0, 0), 1);
    }

    private static void noticeNotBehindItsOwnDay() {
        PageOne x = Make.desk(1);
        int f = x.filler(1, 1);
        x.put(f, 0, 0, 0, 1);
        x.plate(0);
        int n = x.notice(f, 1);
        x.day();
        x.put(n, 0, 0, 0, 0);
        x.plate(0);
        x.lift(n);
        x.rule(0, 0, 0);
        x.plate(0);
        x.day();
        Due.is("II: its own plate was replaced, so it wasn't printed", x.put(n, 0, 0, 0, 0), 1);
        x.edition();
        x.plate(0);
        x.lift(n);
        Due.is("II: the day of its own printing", x.put(n, 0, 0, 0, 0), 1);
        x.edition();
        x.lift(n);
        Due.is("II: that day's later editions", x.put(n, 0, 0, 0, 0), 1);
        x.plate(0);
        x.day();
        Due.is("II: the day behind", x.put(n, 0, 0, 0, 0), -1);
        for (int day = 4; day < 40; day++) {
            x.day();
        }
        Due.is("II: far behind", x.put(n, 0, 0, 0, 0), -1);
        Due.is("II: its item is free to stand", x.put(f, 0, 0, 0, 1), 1);
    }

    private static void lifts() {
        for (int item : new int[] {Desks.PICTURE, Desks.PAID, Desks.LONG_FILLER, Desks.NOTICE}) {
            Twins.none("15: item " + item + " has no piece", Desks::busy, x -> x.lift(item));
        }
        for (int item : Desks.KINDS) {
            Twins.none("15: item " + item + " of a desk where nothing stands", Desks::morning, x -> x.lift(item));
        }
        PageOne x = Desks.busy();
        Due.is("15: a head", x.lift(Desks.HEAD), 0);
        Due.is("15: its first cell", x.cell(0, 0, 0), -2);
        Due.is("15: its last cell", x.cell(0, 1, 0), -2);
        Due.is("15: what stood below it still does", x.cell(0, 0, 1), Desks.STORY);
        Due.is("15: no second time", x.lift(Desks.HEAD), -1);
        Due.is("15: one act", x.about(3), 8);
        Due.is("15: a filler that came by fill", x.lift(Desks.FILLER), 0);
        x.day();
        Due.is("15: the day's end lifted it", x.lift(Desks.STORY), -1);
    }

    private static void liftsToTheFirst() {
        PageOne x = sixPieced();
        for (int left = 5; left >= 0; left--) {
            Due.is("15: the last one goes", x.lift(0), left);
            Due.is("15: its cell is empty", x.cell(0, left / 3, left % 3), -2);
            Due.is("15: the one ahead stands", x.cell(0, 0, 0), left > 0 ? 0 : -2);
            Due.is("15: so many lines stand", x.item(0, 3), left);
        }
        Due.is("15: no more", x.lift(0), -1);
        Due.is("15: twelve acts", x.about(3), 12);
    }

    private static void ruleNumbers() {
        Bounds.are("16: page", 0, 11, p -> wholePaper().rule(p, 3, 3));
        Bounds.are("16: column", 0, 7, c -> wholePaper().rule(3, c, 3));
        Bounds.are("16: line", 0, 59, l -> wholePaper().rule(3, 3, l));
        Bounds.are("16: line of a column of five", 0, 4, l -> Make.desk(5).rule(0, 0, l));
        for (int page : Bounds.beyond(0, 11)) {
            Twins.no("16: page " + page, Desks::busy, x -> x.rule(page, 0, 0));
        }
        for (int column : Bounds.beyond(0, 2)) {
            Twins.no("16: column " + column, Desks::busy, x -> x.rule(0, column, 0));
        }
        for (int line : Bounds.beyond(0, 3)) {
            Twins.no("16: line " + line, Desks::busy, x -> x.rule(2, 0, line));
        }
        Twins.no("16: a new desk", Desks::fresh, x -> x.rule(0, 0, 0));
    }

    private static void rulesOnWhatIsTaken() {
        Twins.no("16: a head's cell", Desks::busy, x -> x.rule(0, 1, 0));
        Twins.no("16: a story's cell", Desks::busy, x -> x.rule(1, 0, 2));
        Twins.no("16: a filler's cell", Desks::busy, x -> x.rule(11, 7, 1));
        Twins.no("16: a rule's cell", Desks::busy, x -> x.rule(11, 7, 0));
        PageOne x = Make.desk(3);
        Due.yes("16: an empty cell", x.rule(0, 0, 1));
        Due.are("16: that one alone", Make.column(x, 0, 0, 3), -2, 100, -2);
        Due.is("16: an act", x.about(3), 1);
        Due.is("16: it is no item", x.about(2), 0);
    }

    private static void fillNumbers() {
        Bounds.are("17: page", 0, 11, p -> {
            PageOne x = new PageOne();
            for (int page = 0; page < 12; page++) {
                x.column(page, 7, 60);
            }
            int f = x.filler(60, 60);
            return x.fill(p) == 1 && x.cell(p, 7, 59) == f && x.piece(f, 0, 0) == p;
        });
        for (int page : Bounds.beyond(0, 11)) {
            Twins.none("17: page " + page, Desks::busy, x -> x.fill(page));
        }
    }

    private static int came(int lines, int least, int most) {
        PageOne x = Make.desk(lines);
        x.filler(least, most);
        int n = x.fill(0);
        Due.is("17: an act if one came", x.about(3), n);
        Due.is("17: the whole row or nothing", x.shortOf(0, 0), n == 1 ? 0 : lines);
        return n;
    }

    private static void fillRows() {
        Due.is("17: a row of less than its least", came(2, 3, 5), 0);
        Due.is("17: of its least", came(3, 3, 5), 1);
        Due.is("17: between the two", came(4, 3, 5), 1);
        Due.is("17: of its most", came(5, 3, 5), 1);
        Due.is("17: of more than its most", came(6, 3, 5), 0);
        Due.is("17: one line", came(1, 1, 1), 1);
        Due.is("17: sixty lines", came(60, 60, 60), 1);
        Due.is("17: 59 of sixty", came(59, 60, 60), 0);
        Due.is("17: sixty of 59", came(60, 1, 59), 0);
    }

    private static void fillsAsLongAsCanBe() {
        PageOne x = Make.desk(60);
        int one = x.filler(1, 1);
        int other = x.filler(1, 1);
        int mid = x.filler(1, 60);
        x.rule(0, 0, 1);
        x.rule(0, 0, 58);
        Due.is("17: the top line, the middle, the last line", x.fill(0), 3);
        Due.is("17: the top line", x.cell(0, 0, 0), one);
        Due.is("17: the middle's first", x.cell(0, 0, 2), mid);
        Due.are("17: the middle is one row", Make.piece(x, mid, 0), 0, 0, 2, 1, 56, 0, 0);
        Due.is("17: the last line", x.cell(0, 0, 59), other);

        PageOne y = Make.desk(2, 2);
        int a = y.filler(2, 2);
        int b = y.filler(1, 4);
        Due.is("17: rows end with their columns", y.fill(0), 2);
        Due.is("17: column 0 comes first", y.cell(0, 0, 1), a);
        Due.is("17: then column 1", y.cell(0, 1, 0), b);
    }

    private static void fillsNone() {
        PageOne x = Make.desk(2);
        Due.is("17: no items", x.fill(0), 0);
        int f = x.filler(3, 3);
        Due.is("17: none that takes the row", x.fill(0), 0);
        Due.is("17: a page without columns", x.fill(11), 0);
        int g = x.filler(2, 2);
        Due.is("17: now one", x.fill(0), 1);
        Due.is("17: a full page", x.fill(0), 0);
        Due.is("17: one act", x.about(3), 1);
        x.lift(g);
        Due.is("17: it was lifted, so it comes again", x.fill(0), 1);
        Due.is("17: the other never stood", x.item(f, 1), 0);
        PageOne y = Make.desk(2);
        int p = y.picture();
        y.size(p, 1, 2);
        int s = Make.story(y, 1, 2);
        y.paid(0, 0, 0, 0, 1, 2, 1);
        y.head(s, 1, 2);
        Due.is("17: others than fillers don't come", y.fill(0), 0);
        PageOne z = Make.desk(2);
        Make.columns(z, 1, 2);
        z.filler(2, 2);
        z.fill(1);
        Due.is("17: a filler that stands elsewhere", z.fill(0), 0);
    }

    private static void eightyFillers() {
        PageOne x = new PageOne();
        for (int column = 0; column < 8; column++) {
            x.column(0, column, 19);
        }
        for (int i = 0; i < 80; i++) {
            Due.is("10: filler", x.filler(1, 1), i);
        }
        for (int column = 0; column < 8; column++) {
            for (int line = 1; line < 19; line += 2) {
                x.rule(0, column, line);
            }
        }
        Due.is("17: all eighty come", x.fill(0), 80);
        Due.is("17: one act", x.about(3), 73);
        Due.is("17: the first at the top", x.cell(0, 0, 0), 0);
        Due.is("17: the tenth at the first column's foot", x.cell(0, 0, 18), 9);
        Due.is("17: the last at the last column's foot", x.cell(0, 7, 18), 79);
        Due.is("19: the page is full", x.plate(0), 152);
        Due.is("18: all eighty go", x.undo(), 72);
        Due.is("18: ten of each column", x.shortOf(0, 7), 10);
        Due.is("18: the first", x.item(0, 1), 0);
        Due.is("18: the last", x.item(79, 1), 0);
    }

    private static void undoWithoutActs() {
        Twins.none("18: a new desk", Desks::fresh, PageOne::undo);
        Twins.none("18: the morning", Desks::morning, PageOne::undo);
        PageOne x = Make.desk(1);
        x.filler(2, 2);
        x.fill(0);
        x.put(0, 0, 0, 0, 2);
        x.lift(0);
        x.rule(0, 0, 1);
        Due.is("18: refused calls and a fill of none are no acts", x.undo(), -1);
        x.rule(0, 0, 0);
        x.plate(0);
        x.edition();
        Due.is("18: nor are plates and editions", x.undo(), 0);
        Due.is("18: there was one", x.undo(), -1);
        Due.is("18: the plate stays", x.plated(0, 0, 0), 100);
        Due.is("18: the edition stays", x.about(1), 1);
    }

    private static void undoEachAct() {
        PageOne x = Desks.busy();
        Due.is("18: the lift", x.undo(), 6);
        Due.is("18: the square is back", x.cell(0, 2, 1), Desks.PAID);
        Due.is("18: the fill", x.undo(), 5);
        Due.is("18: its filler went", x.cell(11, 7, 1), -2);
        Due.is("18: the rule", x.undo(), 4);
        Due.is("18: it went", x.cell(11, 7, 0), -2);
        Due.is("18: the square", x.undo(), 3);
        Due.is("18: it went again", x.cell(0, 2, 1), -2);
        Due.is("18: the story's second", x.undo(), 2);
        Due.are("18: the first takes all its cells", Make.piece(x, Desks.STORY, 0), 0, 0, 1, 1, 3, 0, 3);
        Due.is("18: the story's first", x.undo(), 1);
        Due.is("18: the head", x.undo(), 0);
        Due.is("18: nothing stands", x.shortOf(0, 0) + x.shortOf(0, 1) + x.shortOf(0, 2), 12);
        Due.is("18: no more", x.undo(), -1);
        Due.is("18: the plate is as it was", x.plated(11, 7, 1), Desks.FILLER);
        Due.is("18: so is what was printed", x.printed(Desks.FILLER, 0), 1);
        Due.yes("2: no act is kept", x.column(0, 0, 5));
    }

    private static void undoOfThisDay() {
        PageOne x = Make.desk(3);
        x.rule(0, 0, 0);
        x.rule(0, 0, 1);
        x.day();
        Twins.none("18: the day before", () -> {
            PageOne y = Make.desk(3);
            y.rule(0, 0, 0);
            y.day();
            return y;
        }, PageOne::undo);
        x.rule(0, 0, 2);
        Due.is("18: this day's one", x.undo(), 0);
        Due.is("18: none of the day before", x.undo(), -1);
        Due.is("18: nothing stands", x.shortOf(0, 0), 3);
    }

    private static void threeHundredActs() {
        Supplier<PageOne> all = () -> Desks.withActs(300);
        Due.is("14: the 300th, a put", Desks.withActs(299).put(Desks.PAID, 0, 2, 0, 0), 1);
        Due.is("15: the 300th, a lift", Desks.withActs(299).lift(Desks.HEAD), 0);
        Due.yes("16: the 300th, a rule", Desks.withActs(299).rule(2, 0, 0));
        Due.is("17: the 300th, a fill", Desks.withActs(299).fill(2), 1);
        Twins.none("14: the 301st, a put", all, x -> x.put(Desks.PAID, 0, 2, 0, 0));
        Twins.none("14: the 301st, a story's put", all, x -> x.put(Desks.STORY, 0, 1, 1, 1));
        Twins.none("15: the 301st, a lift", all, x -> x.lift(Desks.HEAD));
        Twins.no("16: the 301st, a rule", all, x -> x.rule(2, 0, 0));
        Twins.none("17: the 301st, a fill", all, x -> x.fill(2));
        Twins.none("17: a fill that would bring none", all, x -> x.fill(7));
        PageOne x = Desks.withActs(300);
        Due.is("18: 300 can be taken back", x.undo(), 299);
        Due.yes("16: then one may come", x.rule(2, 0, 0));
        Due.no("16: and no other", x.rule(2, 0, 1));
        Due.is("31: 300", x.about(3), 300);
        Due.is("20: an edition keeps them", x.edition(), 2);
        Due.no("16: no other still", x.rule(2, 0, 1));
        x.day();
        Due.yes("16: the next day", x.rule(2, 0, 1));
        Due.is("31: one", x.about(3), 1);

        PageOne y = Make.desk(60, 60, 60, 60, 60);
        for (int i = 0; i < 300; i++) {
            Due.yes("16: rule " + i, y.rule(0, i / 60, i % 60));
        }
        Due.is("19: 300 rules make a page", y.plate(0), 300);
        for (int left = 299; left >= 110; left--) {
            Due.is("18: taken back", y.undo(), left);
        }
    }
}
