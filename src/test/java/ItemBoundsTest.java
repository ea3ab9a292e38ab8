/** The boundaries of promises 4 to 13: items and what comes to them. */
public final class ItemBoundsTest {
    public static void main(String[] args) {
        desksAreAsTheyShouldBe();
        storyLeast();
        storyLeastStands();
        lineWidths();
        eightyLines();
        linesOfOthers();
        headSizes();
        headsOfOthers();
        pictureWithoutSizes();
        sizeNumbers();
        fourSizes();
        paidNumbers();
        paidWithinThePage();
        fillerNumbers();
        noticeLines();
        noticeOfEachKind();
        noticeIsRefused();
        noticeOnceForEach();
        rivalNumbers();
        allRivals();
        nameNumbers();
        allNames();
        eightyItems();
        itemsAreNumberedInOrder();
        Due.end();
    }

    private static void desksAreAsTheyShouldBe() {
        PageOne x = Desks.busy();
        Due.are("desk: about", Make.about(x), 1, 1, 7, 7, 0);
        for (int i = 0; i < Desks.KINDS.length; i++) {
            Due.is("desk: kind " + i, x.item(Desks.KINDS[i], 0), i);
        }
        Due.is("desk: the story's pieces", x.item(Desks.STORY, 1), 2);
        Due.is("desk: the plate", x.plated(11, 7, 1), Desks.FILLER);
        Due.is("desk: it owes nothing", x.bill(1, 1), 0);
        Due.is("desk: 300 acts", Desks.withActs(300).about(3), 300);
        Due.is("desk: 299 acts", Desks.withActs(299).about(3), 299);
        Due.is("desk: 80 items", Desks.full().about(2), 80);
    }

    private static void storyLeast() {
        Bounds.are("4: least", 1, 80, n -> new PageOne().story(n) == 0);
        for (int least : Bounds.beyond(1, 80)) {
            Twins.none("4: least " + least, Desks::busy, x -> x.story(least));
        }
    }

    private static void storyLeastStands() {
        PageOne x = Make.desk(60, 60);
        int s = Make.story(x, 80, 80);
        x.put(s, 0, 0, 0, 60);
        x.put(s, 0, 1, 0, 19);
        Due.are("4: 79 of 80 stand", Make.broken(x, 0), 4, s, -1);
        x.put(s, 0, 1, 19, 1);
        Due.are("4: 80 of 80 stand", Make.broken(x, 0), 0, -1, -1);

        PageOne y = Make.desk(2);
        int t = Make.story(y, 1, 1);
        Due.are("4: none of 1, it doesn't stand at all", Make.broken(y, 0), 0, -1, -1);
        y.put(t, 0, 0, 0, 1);
        Due.are("4: 1 of 1", Make.broken(y, 0), 0, -1, -1);
    }

    private static void lineWidths() {
        Bounds.are("5: width", 1, 200, w -> {
            PageOne x = new PageOne();
            return x.line(x.story(1), w) == 1;
        });
        for (int width : Bounds.beyond(1, 200)) {
            Twins.none("5: width " + width, Desks::busy, x -> x.line(Desks.STORY, width));
        }
    }

    private static void eightyLines() {
        PageOne x = Make.desk(60, 60);
        int s = Make.story(x, 1, 79);
        Due.is("5: the 80th, the widest that the page takes", x.line(s, 100), 80);
        Due.is("5: the 81st", x.line(s, 10), -1);
        Due.is("5: 80 have come", x.item(s, 2), 80);
        x.put(s, 0, 0, 0, 60);
        Due.is("5: an 81st line can't stand", x.put(s, 0, 1, 0, 21), -1);
        Due.is("5: the 80th can", x.put(s, 0, 1, 0, 20), 2);
        Due.is("5: 80 stand", x.item(s, 3), 80);
        int t = x.story(1);
        Due.is("5: another's first", x.line(t, 10), 1);

        PageOne y = Make.desk(3);
        int u = Make.story(y, 1, 1);
        y.put(u, 0, 0, 0, 1);
        Due.is("5: a line comes while it stands", y.line(u, 10), 2);
        Due.is("5: that is no act", y.about(3), 1);
        Due.is("5: it doesn't stand by itself", y.item(u, 3), 1);
        Due.is("5: it can be put", y.put(u, 0, 0, 1, 1), 2);
        y.day();
        Due.is("5: it stays on the next day", y.item(u, 2), 2);
    }

    private static void linesOfOthers() {
        for (int i = 1; i < Desks.ITEMS; i++) {
            int item = i;
            Twins.none("5: item " + item + " is no story", Desks::busy, x -> x.line(item, 10));
            Twins.none("6: item " + item + " is no story", Desks::busy, x -> x.head(item, 1, 1));
            Twins.no("13: item " + item + " is no story", Desks::busy, x -> x.names(item, 5));
        }
        for (int item : Bounds.beyond(0, Desks.ITEMS - 1)) {
            Twins.none("5: no story " + item, Desks::busy, x -> x.line(item, 10));
            Twins.none("6: no story " + item, Desks::busy, x -> x.head(item, 1, 1));
            Twins.none("8: no picture " + item, Desks::busy, x -> x.size(item, 1, 1));
            Twins.none("11: no item " + item, Desks::busy, x -> x.notice(item, 1));
            Twins.no("13: no story " + item, Desks::busy, x -> x.names(item, 5));
        }
    }

    private static void headSizes() {
        Bounds.are("6: w", 1, 8, w -> {
            PageOne x = new PageOne();
            return x.head(x.story(1), w, 5) == 1;
        });
        Bounds.are("6: h", 1, 9, h -> {
            PageOne x = new PageOne();
            return x.head(x.story(1), 5, h) == 1;
        });
        for (int w : Bounds.beyond(1, 8)) {
            Twins.none("6: w " + w, Desks::busy, x -> x.head(Desks.STORY, w, 1));
        }
        for (int h : Bounds.beyond(1, 9)) {
            Twins.none("6: h " + h, Desks::busy, x -> x.head(Desks.STORY, 1, h));
        }
    }

    private static void headsOfOthers() {
        PageOne x = Make.desk(9, 9, 9, 9, 9, 9, 9, 9);
        Make.columns(x, 1, 8, 8, 8, 8, 8, 8, 8, 8);
        Make.columns(x, 2, 9, 9, 9, 9, 9, 9, 9);
        int s = x.story(1);
        int h = x.head(s, 8, 9);
        Due.is("6: a line too many for the page", x.put(h, 1, 0, 0, 0), -1);
        Due.is("6: a column too many for the page", x.put(h, 2, 0, 0, 0), -1);
        Due.is("6: the largest, as large as the page", x.put(h, 0, 0, 0, 0), 1);
        Due.are("6: it stands", Make.piece(x, h, 0), 0, 0, 0, 8, 9, 0, 0);
        Due.is("6: to the last cell", x.cell(0, 7, 8), h);
        Due.is("6: a second head of the same story", x.head(s, 1, 1), 2);
        Due.is("6: belongs to it", x.item(2, 4), s);
    }

    private static void pictureWithoutSizes() {
        PageOne x = Make.desk(3);
        int p = x.picture();
        for (int how = -1; how <= 4; how++) {
            Due.is("7: no size " + how, x.put(p, 0, 0, 0, how), -1);
        }
        Due.is("7: its first size", x.size(p, 1, 2), 1);
        Due.is("7: size -1", x.put(p, 0, 0, 0, -1), -1);
        Due.is("7: size 1", x.put(p, 0, 0, 0, 1), -1);
        Due.is("7: size 0", x.put(p, 0, 0, 0, 0), 1);
        Due.are("7: it stands", Make.piece(x, p, 0), 0, 0, 0, 1, 2, 0, 0);
        Due.is("8: another size while it stands", x.size(p, 1, 3), 2);
        Due.are("8: leaves it standing", Make.piece(x, p, 0), 0, 0, 0, 1, 2, 0, 0);
        Due.is("8: that is no act", x.about(3), 1);
    }

    private static boolean hasSize(int w, int h) {
        PageOne x = Make.desk(60, 60, 60, 60, 60, 60, 60, 60);
        int p = x.picture();
        boolean taken = x.size(p, w, h) == 1 && x.put(p, 0, 0, 0, 0) == 1;
        return taken && x.piece(p, 0, 3) == w && x.piece(p, 0, 4) == h && x.cell(0, w - 1, h - 1) == p;
    }

    private static void sizeNumbers() {
        Bounds.are("8: w", 1, 8, w -> hasSize(w, 60));
        Bounds.are("8: h", 1, 60, h -> hasSize(8, h));
        for (int w : Bounds.beyond(1, 8)) {
            Twins.none("8: w " + w, Desks::busy, x -> x.size(Desks.PICTURE, w, 1));
        }
        for (int h : Bounds.beyond(1, 60)) {
            Twins.none("8: h " + h, Desks::busy, x -> x.size(Desks.PICTURE, 1, h));
        }
        for (int item : Desks.KINDS) {
            if (item != Desks.PICTURE) {
                Twins.none("8: item " + item + " is no picture", Desks::busy, x -> x.size(item, 1, 1));
            }
        }
    }

    private static PageOne fourSized() {
        PageOne x = Make.desk(9);
        x.picture();
        for (int h = 1; h <= 4; h++) {
            Due.is("8: size " + h, x.size(0, 1, h * 2), h);
        }
        return x;
    }

    private static void fourSizes() {
        Bounds.are("8: of four sizes number", 0, 3, n -> {
            PageOne x = fourSized();
            return x.put(0, 0, 0, 0, n) == 1 && x.piece(0, 0, 4) == n * 2 + 2;
        });
        Twins.none("8: a fifth", ItemBoundsTest::fourSized, x -> x.size(0, 1, 1));
        Due.is("8: a fifth hasn't become the fourth", fourSizedAndOneMore().put(0, 0, 0, 0, 3), 1);
        Due.is("8: nor the first", fourSizedAndOneMore().put(0, 0, 0, 8, 0), -1);
    }

    private static PageOne fourSizedAndOneMore() {
        PageOne x = fourSized();
        x.size(0, 1, 1);
        return x;
    }

    /** Whether a square is sold, and with these very numbers: it stands there and its buyer owes that much. */
    private static boolean sells(int buyer, int page, int column, int line, int w, int h, int price) {
        PageOne x = new PageOne();
        if (x.paid(buyer, page, column, line, w, h, price) != 0) {
            return false;
        }
        for (int c = 0; c < 8; c++) {
            x.column(page, c, c >= column && c < column + w ? line + h : 0);
        }
        x.put(0, page, column, line, 0);
        if (line > 0) {
            int top = x.picture();
            x.size(top, w, line);
            x.put(top, page, column, 0, 0);
        }
        return x.plate(page) == w * (line + h) && x.bill(buyer, 0) == w * h * price && x.item(0, 5) == buyer;
    }

    private static void paidNumbers() {
        Bounds.are("9: buyer", 0, 9, b -> sells(b, 0, 0, 0, 1, 1, 7));
        Bounds.are("9: page", 0, 11, p -> sells(3, p, 2, 2, 2, 2, 7));
        Bounds.are("9: column", 0, 7, c -> sells(3, 0, c, 0, 1, 1, 7));
        Bounds.are("9: line", 0, 59, l -> sells(3, 0, 0, l, 1, 1, 7));
        Bounds.are("9: w", 1, 8, w -> sells(3, 0, 0, 0, w, 1, 7));
        Bounds.are("9: h", 1, 60, h -> sells(3, 0, 0, 0, 1, h, 7));
        Bounds.are("9: price", 0, 1000, p -> sells(3, 0, 0, 0, 8, 60, p));
        for (int i = 0; i < 7; i++) {
            int[] low = {0, 0, 0, 0, 1, 1, 0};
            int[] high = {9, 11, 7, 59, 8, 60, 1000};
            for (int wrong : Bounds.beyond(low[i], high[i])) {
                int[] a = {3, 0, 0, 0, 1, 1, 7};
                a[i] = wrong;
                Twins.none("9: number " + i + " is " + wrong, Desks::busy,
                        x -> x.paid(a[0], a[1], a[2], a[3], a[4], a[5], a[6]));
            }
        }
    }

    private static void paidWithinThePage() {
        for (int w = 1; w <= 8; w++) {
            int width = w;
            Bounds.are("9: column of " + w + " columns", 0, 8 - w, c -> sells(0, 0, c, 5, width, 1, 1));
        }
        for (int h : new int[] {1, 2, 30, 59, 60}) {
            Bounds.are("9: line of " + h + " lines", 0, 60 - h, l -> sells(0, 0, 5, l, 1, h, 1));
        }
        PageOne x = new PageOne();
        Due.is("9: a page without columns", x.paid(0, 4, 0, 0, 8, 60, 1000), 0);
        Due.is("9: the same cells once more", x.paid(1, 4, 0, 0, 8, 60, 1000), 1);
        Due.is("9: selling is no act", x.about(3), 0);
    }

    private static void fillerNumbers() {
        Bounds.are("10: least of 60", 1, 60, n -> fills(n, 60));
        Bounds.are("10: most of 1", 1, 60, n -> fills(1, n));
        Bounds.are("10: least of 7", 1, 7, n -> fills(n, 7));
        Bounds.are("10: most of 7", 7, 60, n -> fills(7, n));
        for (int[] pair : new int[][] {{0, 1}, {0, 0}, {1, 0}, {2, 1}, {60, 59}, {1, 61}, {61, 61}, {-1, 5},
            {Integer.MIN_VALUE, Integer.MAX_VALUE}, {Integer.MAX_VALUE, Integer.MIN_VALUE}, {5, Integer.MAX_VALUE}}) {
            Twins.none("10: " + pair[0] + " to " + pair[1], Desks::busy, x -> x.filler(pair[0], pair[1]));
        }
    }

    /** Whether there is such a filler, and it takes its least and its most and nothing beyond. */
    private static boolean fills(int least, int most) {
        PageOne x = Make.desk(60);
        if (x.filler(least, most) != 0) {
            return false;
        }
        boolean beyond = x.put(0, 0, 0, 0, least - 1) != -1 || x.put(0, 0, 0, 0, most + 1) != -1;
        boolean low = x.put(0, 0, 0, 0, least) == 1 && x.piece(0, 0, 4) == least && x.lift(0) == 0;
        return !beyond && low && x.put(0, 0, 0, 0, most) == 1 && x.piece(0, 0, 4) == most;
    }

    /** A desk whose filler 0 was printed on day 0; filler 1 was not. */
    private static PageOne printedDesk() {
        PageOne x = Make.desk(21);
        x.filler(21, 21);
        x.filler(1, 1);
        x.fill(0);
        x.plate(0);
        return x;
    }

    private static void noticeLines() {
        Bounds.are("11: h", 1, 20, h -> {
            PageOne x = printedDesk();
            if (x.notice(0, h) != 2) {
                return false;
            }
            x.day();
            return x.put(2, 0, 0, 0, 0) == 1 && x.piece(2, 0, 4) == h && x.piece(2, 0, 3) == 1;
        });
        for (int h : Bounds.beyond(1, 20)) {
            Twins.none("11: h " + h, ItemBoundsTest::printedDesk, x -> x.notice(0, h));
        }
    }

    private static void noticeOfEachKind() {
        PageOne x = Make.desk(3, 3);
        int s = Make.story(x, 1, 2);
        int h = x.head(s, 1, 1);
        int p = x.picture();
        x.size(p, 1, 1);
        int q = x.paid(0, 0, 1, 1, 1, 1, 5);
        int f = x.filler(1, 1);
        int[] all = {s, h, p, q, f};
        x.put(h, 0, 0, 0, 0);
        x.put(s, 0, 0, 1, 2);
        x.put(p, 0, 1, 0, 0);
        x.put(q, 0, 1, 1, 0);
        for (int item : all) {
            Due.is("11: item " + item + " stands, but is not printed", x.notice(item, 1), -1);
        }
        x.put(f, 0, 1, 2, 1);
        x.plate(0);
        for (int item : all) {
            Due.is("11: item " + item + " was printed", x.notice(item, 1), 5 + item);
            Due.is("11: its notice", x.item(5 + item, 0), 5);
            Due.is("11: mends it", x.item(5 + item, 4), item);
        }
        for (int item : all) {
            Due.is("11: there is one of item " + item, x.notice(item, 1), -1);
            Due.is("11: it is a notice", x.notice(5 + item, 1), -1);
        }
        Due.is("11: no act came by it", x.about(3), 5);
    }

    private static void noticeIsRefused() {
        Twins.none("11: it was not printed", ItemBoundsTest::printedDesk, x -> x.notice(1, 1));
        Twins.none("11: it stands, but was not printed", Desks::busy, x -> x.notice(Desks.STORY, 1));
        Twins.none("11: there is one of it", Desks::busy, x -> x.notice(Desks.LONG_FILLER, 1));
        Twins.none("11: it is a notice", Desks::busy, x -> x.notice(Desks.NOTICE, 1));
        Twins.none("11: it is a notice that was printed", () -> {
            PageOne x = Desks.morning();
            x.put(Desks.NOTICE, 2, 0, 0, 0);
            Make.ruleRest(x, 2);
            x.plate(2);
            Due.is("27: it was printed", x.printed(Desks.NOTICE, 0), 1);
            return x;
        }, x -> x.notice(Desks.NOTICE, 1));
        Twins.none("11: a rule is no item", Desks::busy, x -> x.notice(100, 1));
        Twins.none("11: 80 items", Desks::full, x -> x.notice(Desks.FILLER, 1));
        Due.is("11: the same with fewer", Desks.busy().notice(Desks.FILLER, 1), 7);

        PageOne x = Make.desk(1);
        x.filler(1, 1);
        x.fill(0);
        x.plate(0);
        x.undo();
        x.rule(0, 0, 0);
        x.plate(0);
        Due.is("11: the plate that printed it was replaced", x.notice(0, 1), -1);
        x.edition();
        Due.is("11: also behind the edition", x.notice(0, 1), -1);
        x.undo();
        x.fill(0);
        x.plate(0);
        x.day();
        Due.is("11: another edition printed it", x.notice(0, 1), 1);
    }

    private static void noticeOnceForEach() {
        PageOne x = Make.desk(2);
        int a = x.filler(1, 1);
        int b = x.filler(1, 1);
        x.put(a, 0, 0, 0, 1);
        x.put(b, 0, 0, 1, 1);
        x.plate(0);
        int n = x.notice(b, 1);
        Due.is("11: a notice of another item", x.notice(a, 1), 3);
        Due.is("11: once of the one", x.notice(a, 1), -1);
        Due.is("11: once of the other", x.notice(b, 2), -1);
        x.day();
        x.put(n, 0, 0, 0, 0);
        x.rule(0, 0, 1);
        x.plate(0);
        Due.is("11: also when the notice was printed", x.notice(b, 1), -1);
        x.day();
        x.put(b, 0, 0, 1, 1);
        x.rule(0, 0, 0);
        x.plate(0);
        x.day();
        Due.is("11: also when the item was printed again", x.notice(b, 1), -1);
        Due.is("11: items", x.about(2), 4);
    }

    private static void rivalNumbers() {
        Bounds.are("12: the first", 0, 9, a -> new PageOne().rival(a, 5));
        Bounds.are("12: the second", 0, 9, b -> new PageOne().rival(5, b));
        for (int buyer : Bounds.beyond(0, 9)) {
            Twins.no("12: the first is " + buyer, Desks::busy, x -> x.rival(buyer, 5));
            Twins.no("12: the second is " + buyer, Desks::busy, x -> x.rival(5, buyer));
            Twins.no("12: both are " + buyer, Desks::busy, x -> x.rival(buyer, buyer));
        }
        for (int buyer = 0; buyer < 10; buyer++) {
            int same = buyer;
            Twins.no("12: the same, " + buyer, Desks::busy, x -> x.rival(same, same));
        }
        Twins.no("12: they are", Desks::busy, x -> x.rival(1, 2));
        Twins.no("12: they are, the other way", Desks::busy, x -> x.rival(2, 1));
    }

    private static void allRivals() {
        PageOne x = new PageOne();
        for (int a = 0; a < 10; a++) {
            for (int b = 0; b < a; b++) {
                Due.yes("12: " + a + " and " + b, x.rival(a, b));
            }
        }
        for (int a = 0; a < 10; a++) {
            for (int b = 0; b < 10; b++) {
                Due.no("12: all are, " + a + " and " + b, x.rival(a, b));
            }
        }
    }

    private static void nameNumbers() {
        Bounds.are("13: buyer", 0, 9, b -> {
            PageOne x = new PageOne();
            return x.names(x.story(1), b);
        });
        for (int buyer : Bounds.beyond(0, 9)) {
            Twins.no("13: buyer " + buyer, Desks::busy, x -> x.names(Desks.STORY, buyer));
        }
        Twins.no("13: it does", Desks::busy, x -> x.names(Desks.STORY, 1));
        Due.yes("13: it doesn't", Desks.busy().names(Desks.STORY, 2));
    }

    private static void allNames() {
        PageOne x = new PageOne();
        int s = x.story(1);
        int t = x.story(1);
        for (int buyer = 0; buyer < 10; buyer++) {
            Due.yes("13: buyer " + buyer, x.names(s, buyer));
        }
        for (int buyer = 0; buyer < 10; buyer++) {
            Due.no("13: all are named, " + buyer, x.names(s, buyer));
            Due.yes("13: not by the other story, " + buyer, x.names(t, buyer));
        }
        Due.is("13: naming is no act", x.about(3), 0);
    }

    private static PageOne withItems(int items) {
        PageOne x = printedDesk();
        int s = x.story(1);
        Due.is("4: the story that is headed", s, 2);
        for (int i = 3; i < items; i++) {
            Due.is("7: item " + i, x.picture(), i);
        }
        return x;
    }

    private static void eightyItems() {
        Due.is("4: the 80th, a story", withItems(79).story(1), 79);
        Due.is("6: the 80th, a head", withItems(79).head(2, 1, 1), 79);
        Due.is("7: the 80th, a picture", withItems(79).picture(), 79);
        Due.is("9: the 80th, a square", withItems(79).paid(0, 0, 0, 0, 1, 1, 1), 79);
        Due.is("10: the 80th, a filler", withItems(79).filler(1, 1), 79);
        Due.is("11: the 80th, a notice", withItems(79).notice(0, 1), 79);
        Twins.none("4: the 81st, a story", () -> withItems(80), x -> x.story(1));
        Twins.none("6: the 81st, a head", () -> withItems(80), x -> x.head(2, 1, 1));
        Twins.none("7: the 81st, a picture", () -> withItems(80), PageOne::picture);
        Twins.none("9: the 81st, a square", () -> withItems(80), x -> x.paid(0, 0, 0, 0, 1, 1, 1));
        Twins.none("10: the 81st, a filler", () -> withItems(80), x -> x.filler(1, 1));
        Twins.none("11: the 81st, a notice", () -> withItems(80), x -> x.notice(0, 1));
        PageOne x = withItems(80);
        Due.is("5: lines still come", x.line(2, 10), 1);
        Due.is("8: sizes still come, to the last item too", x.size(79, 1, 1), 1);
        Due.yes("13: names still come", x.names(2, 0));
        Due.is("21: a day makes no room", x.day(), 1);
        Due.is("4: there are 80 still", x.story(1), -1);
        Due.is("14: the last item stands", x.put(79, 0, 0, 0, 0), 1);
        Due.is("22: by its number", x.cell(0, 0, 0), 79);
    }

    private static void itemsAreNumberedInOrder() {
        PageOne x = new PageOne();
        Due.is("4: refused", x.story(0), -1);
        Due.is("4: the first", x.story(1), 0);
        Due.is("6: refused", x.head(0, 9, 1), -1);
        Due.is("6: the second", x.head(0, 1, 1), 1);
        Due.is("9: refused", x.paid(10, 0, 0, 0, 1, 1, 1), -1);
        Due.is("9: the third", x.paid(9, 0, 0, 0, 1, 1, 1), 2);
        Due.is("10: refused", x.filler(2, 1), -1);
        Due.is("10: the fourth", x.filler(1, 2), 3);
        Due.is("11: refused", x.notice(0, 1), -1);
        Due.is("7: the fifth", x.picture(), 4);
        Due.is("31: five items", x.about(2), 5);
    }
}
