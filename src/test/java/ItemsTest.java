/** Promises 1 to 13 and 24: a new desk, its pages, and the items that come to it. */
public final class ItemsTest {
    public static void main(String[] args) {
        newObject();
        columns();
        measures();
        stories();
        lines();
        heads();
        pictures();
        paidSquares();
        fillers();
        notices();
        rivals();
        names();
        eightyItems();
        itemFacts();
        Due.end();
    }

    private static void newObject() {
        PageOne x = new PageOne();
        Due.is("NONE", PageOne.NONE, -1);
        Due.are("1: about", Make.about(x), 0, 0, 0, 0, 0);
        for (int page = 0; page < 12; page++) {
            for (int column = 0; column < 8; column++) {
                Due.is("1: shortOf", x.shortOf(page, column), 0);
                Due.is("1: cell", x.cell(page, column, 0), -1);
            }
            Due.are("1: broken", Make.broken(x, page), 0, -1, -1);
            Due.is("1: plateOf", x.plateOf(page, 0), -1);
        }
        Due.is("1: item", x.item(0, 0), -1);
        Due.yes("1: column", x.column(11, 7, 60));
        int s = x.story(1);
        x.line(s, 101);
        Due.is("1: 101 is wider than the measure", x.put(s, 11, 7, 0, 1), -1);
        int t = x.story(1);
        x.line(t, 100);
        Due.is("1: 100 is not", x.put(t, 11, 7, 0, 1), 1);
    }

    private static void columns() {
        PageOne x = new PageOne();
        Due.yes("2: the last of all", x.column(11, 7, 60));
        Due.is("2: its cells", x.shortOf(11, 7), 60);
        Due.is("2: its last cell", x.cell(11, 7, 59), -2);
        Due.is("2: none below", x.cell(11, 7, 60), -1);
        Due.no("2: page -1", x.column(-1, 0, 1));
        Due.no("2: page 12", x.column(12, 0, 1));
        Due.no("2: column -1", x.column(0, -1, 1));
        Due.no("2: column 8", x.column(0, 8, 1));
        Due.no("2: -1 lines", x.column(11, 7, -1));
        Due.no("2: 61 lines", x.column(11, 7, 61));
        Due.no("2: far off", x.column(Integer.MAX_VALUE, Integer.MIN_VALUE, Integer.MAX_VALUE));
        Due.is("2: nothing changed", x.shortOf(11, 7), 60);
        Due.yes("2: shorter", x.column(11, 7, 3));
        Due.is("2: three", x.shortOf(11, 7), 3);
        Due.is("2: no fourth", x.cell(11, 7, 3), -1);
        Due.yes("2: none", x.column(11, 7, 0));
        Due.is("2: no cell", x.cell(11, 7, 0), -1);
        Due.yes("2: again", x.column(11, 7, 2));
        Due.yes("2: a rule", x.rule(11, 7, 1));
        Due.no("2: an act is kept", x.column(3, 0, 5));
        Due.is("2: nothing came", x.shortOf(3, 0), 0);
        x.undo();
        Due.yes("2: none is kept", x.column(3, 0, 5));
        x.rule(11, 7, 1);
        x.day();
        Due.yes("2: the next day", x.column(11, 7, 4));
        Due.is("2: all empty", x.shortOf(11, 7), 4);
    }

    private static void measures() {
        PageOne x = Make.desk(4);
        Due.yes("3: 1", x.measure(0, 1));
        Due.yes("3: 200", x.measure(11, 200));
        Due.yes("3: 9", x.measure(0, 9));
        Due.no("3: 0", x.measure(0, 0));
        Due.no("3: 201", x.measure(0, 201));
        Due.no("3: page -1", x.measure(-1, 50));
        Due.no("3: page 12", x.measure(12, 50));
        int s = Make.story(x, 1, 1);
        Due.is("3: 9 holds", x.put(s, 0, 0, 0, 1), -1);
        Due.yes("3: 10", x.measure(0, 10));
        Due.is("3: 10 is wide enough", x.put(s, 0, 0, 0, 1), 1);
        Due.no("3: an act is kept", x.measure(5, 50));
        x.lift(s);
        Due.no("3: two are kept, though nothing stands", x.measure(0, 50));
        x.undo();
        x.undo();
        Due.yes("3: none is kept", x.measure(0, 9));
        Due.is("3: 9 again", x.put(s, 0, 0, 0, 1), -1);
    }

    private static void stories() {
        PageOne x = new PageOne();
        Due.is("4: least 0", x.story(0), -1);
        Due.is("4: least 81", x.story(81), -1);
        Due.is("4: least far off", x.story(Integer.MIN_VALUE), -1);
        Due.is("4: no item came", x.about(2), 0);
        Due.is("4: least 1", x.story(1), 0);
        Due.is("4: least 80", x.story(80), 1);
        Due.is("4: items", x.about(2), 2);
        Due.are("4: facts", Make.item(x, 1), 0, 0, 0, 0, -1, -1);
    }

    private static void lines() {
        PageOne x = new PageOne();
        int s = x.story(1);
        int p = x.picture();
        Due.is("5: no such story", x.line(2, 10), -1);
        Due.is("5: story -1", x.line(-1, 10), -1);
        Due.is("5: a picture", x.line(p, 10), -1);
        Due.is("5: width 0", x.line(s, 0), -1);
        Due.is("5: width 201", x.line(s, 201), -1);
        Due.is("5: none has come", x.item(s, 2), 0);
        Due.is("5: width 1", x.line(s, 1), 1);
        Due.is("5: width 200", x.line(s, 200), 2);
        for (int i = 3; i <= 80; i++) {
            Due.is("5: line " + i, x.line(s, 50), i);
        }
        Due.is("5: the 81st", x.line(s, 50), -1);
        Due.is("5: 80 have come", x.item(s, 2), 80);
        int t = x.story(1);
        Due.is("5: another's first", x.line(t, 50), 1);
    }

    private static void heads() {
        PageOne x = new PageOne();
        int p = x.picture();
        int s = x.story(1);
        Due.is("6: of a picture", x.head(p, 1, 1), -1);
        Due.is("6: of none", x.head(2, 1, 1), -1);
        Due.is("6: of -1", x.head(-1, 1, 1), -1);
        Due.is("6: w 0", x.head(s, 0, 1), -1);
        Due.is("6: w 9", x.head(s, 9, 1), -1);
        Due.is("6: h 0", x.head(s, 1, 0), -1);
        Due.is("6: h 10", x.head(s, 1, 10), -1);
        Due.is("6: no item came", x.about(2), 2);
        Due.is("6: 1 by 1", x.head(s, 1, 1), 2);
        Due.is("6: 8 by 9", x.head(s, 8, 9), 3);
        Due.is("6: of a head", x.head(2, 1, 1), -1);
        Due.are("6: facts", Make.item(x, 3), 1, 0, -1, -1, s, -1);
    }

    private static void pictures() {
        PageOne x = new PageOne();
        int s = x.story(1);
        Due.is("7: a picture", x.picture(), 1);
        Due.is("7: another", x.picture(), 2);
        Due.are("7: facts", Make.item(x, 1), 2, 0, -1, -1, -1, -1);
        Due.yes("7: a column", x.column(0, 0, 60));
        Due.is("7: it has no sizes", x.put(1, 0, 0, 0, 0), -1);
        Due.is("8: of a story", x.size(s, 1, 1), -1);
        Due.is("8: of none", x.size(3, 1, 1), -1);
        Due.is("8: of -1", x.size(-1, 1, 1), -1);
        Due.is("8: w 0", x.size(1, 0, 1), -1);
        Due.is("8: w 9", x.size(1, 9, 1), -1);
        Due.is("8: h 0", x.size(1, 1, 0), -1);
        Due.is("8: h 61", x.size(1, 1, 61), -1);
        Due.is("8: 8 by 60", x.size(1, 8, 60), 1);
        Due.is("8: 1 by 1", x.size(1, 1, 1), 2);
        Due.is("8: 1 by 3", x.size(1, 1, 3), 3);
        Due.is("8: 1 by 1 once more", x.size(1, 1, 1), 4);
        Due.is("8: a fifth", x.size(1, 1, 2), -1);
        Due.is("8: another's first", x.size(2, 1, 2), 1);
        Due.is("8: number 4 of four", x.put(1, 0, 0, 0, 4), -1);
        Due.is("8: number 2", x.put(1, 0, 0, 0, 2), 1);
        Due.are("8: 1 by 3 stands", Make.piece(x, 1, 0), 0, 0, 0, 1, 3, 0, 0);
    }

    private static void paidSquares() {
        PageOne x = new PageOne();
        Due.is("9: buyer -1", x.paid(-1, 0, 0, 0, 1, 1, 1), -1);
        Due.is("9: buyer 10", x.paid(10, 0, 0, 0, 1, 1, 1), -1);
        Due.is("9: page -1", x.paid(0, -1, 0, 0, 1, 1, 1), -1);
        Due.is("9: page 12", x.paid(0, 12, 0, 0, 1, 1, 1), -1);
        Due.is("9: column -1", x.paid(0, 0, -1, 0, 1, 1, 1), -1);
        Due.is("9: column 8", x.paid(0, 0, 8, 0, 1, 1, 1), -1);
        Due.is("9: line -1", x.paid(0, 0, 0, -1, 1, 1, 1), -1);
        Due.is("9: line 60", x.paid(0, 0, 0, 60, 1, 1, 1), -1);
        Due.is("9: w 0", x.paid(0, 0, 0, 0, 0, 1, 1), -1);
        Due.is("9: w 9", x.paid(0, 0, 0, 0, 9, 1, 1), -1);
        Due.is("9: h 0", x.paid(0, 0, 0, 0, 1, 0, 1), -1);
        Due.is("9: h 61", x.paid(0, 0, 0, 0, 1, 61, 1), -1);
        Due.is("9: beyond eight columns", x.paid(0, 0, 1, 0, 8, 1, 1), -1);
        Due.is("9: beyond 60 lines", x.paid(0, 0, 0, 1, 1, 60, 1), -1);
        Due.is("9: price -1", x.paid(0, 0, 0, 0, 1, 1, -1), -1);
        Due.is("9: price 1001", x.paid(0, 0, 0, 0, 1, 1, 1001), -1);
        int far = Integer.MAX_VALUE;
        Due.is("9: far off", x.paid(0, 0, far, far, 8, 60, 1), -1);
        Due.is("9: no item came", x.about(2), 0);
        Due.is("9: a whole page without columns", x.paid(9, 11, 0, 0, 8, 60, 1000), 0);
        Due.is("9: the last cell, for nothing", x.paid(0, 0, 7, 59, 1, 1, 0), 1);
        Due.is("9: the same cell once more", x.paid(0, 0, 7, 59, 1, 1, 0), 2);
        Due.are("9: facts", Make.item(x, 0), 3, 0, -1, -1, -1, 9);
    }

    private static void fillers() {
        PageOne x = new PageOne();
        Due.is("10: least 0", x.filler(0, 5), -1);
        Due.is("10: most 61", x.filler(1, 61), -1);
        Due.is("10: least over most", x.filler(6, 5), -1);
        Due.is("10: far off", x.filler(Integer.MIN_VALUE, Integer.MAX_VALUE), -1);
        Due.is("10: no item came", x.about(2), 0);
        Due.is("10: 1 to 60", x.filler(1, 60), 0);
        Due.is("10: 60 to 60", x.filler(60, 60), 1);
        Due.is("10: 1 to 1", x.filler(1, 1), 2);
        Due.are("10: facts", Make.item(x, 1), 4, 0, -1, -1, -1, -1);
    }

    private static void notices() {
        PageOne x = Make.desk(2);
        int a = x.filler(1, 1);
        int b = x.filler(1, 1);
        x.put(a, 0, 0, 0, 1);
        Due.is("11: it stands, but wasn't printed", x.notice(a, 1), -1);
        x.rule(0, 0, 1);
        Due.is("11: plate", x.plate(0), 2);
        Due.is("11: no such item", x.notice(2, 1), -1);
        Due.is("11: item -1", x.notice(-1, 1), -1);
        Due.is("11: wasn't printed", x.notice(b, 1), -1);
        Due.is("11: h 0", x.notice(a, 0), -1);
        Due.is("11: h 21", x.notice(a, 21), -1);
        Due.is("11: no item came", x.about(2), 2);
        Due.is("11: h 20", x.notice(a, 20), 2);
        Due.is("11: there is one of it", x.notice(a, 1), -1);
        Due.are("11: facts", Make.item(x, 2), 5, 0, -1, -1, a, -1);
        Due.is("11: no act", x.about(3), 2);

        PageOne y = Make.desk(1);
        int f = y.filler(1, 1);
        y.put(f, 0, 0, 0, 1);
        y.plate(0);
        int n = y.notice(f, 1);
        y.day();
        Due.is("11: it comes", y.put(n, 0, 0, 0, 0), 1);
        Due.is("11: plate of a notice", y.plate(0), 1);
        Due.is("11: printed", y.printed(n, 0), 1);
        Due.is("11: a notice of a notice", y.notice(n, 1), -1);
    }

    private static void rivals() {
        PageOne x = new PageOne();
        Due.no("12: -1", x.rival(-1, 0));
        Due.no("12: 10", x.rival(0, 10));
        Due.no("12: the same", x.rival(3, 3));
        Due.yes("12: 0 and 9", x.rival(0, 9));
        Due.no("12: they are", x.rival(0, 9));
        Due.no("12: they are, the other way", x.rival(9, 0));
        Due.yes("12: 9 and 1", x.rival(9, 1));
        Due.no("12: 1 and 9", x.rival(1, 9));
        Due.yes("12: 0 and 1", x.rival(0, 1));
        Due.are("12: no act", Make.about(x), 0, 0, 0, 0, 0);
    }

    private static void names() {
        PageOne x = new PageOne();
        int s = x.story(1);
        int t = x.story(1);
        int p = x.picture();
        Due.no("13: no such story", x.names(3, 0));
        Due.no("13: story -1", x.names(-1, 0));
        Due.no("13: a picture", x.names(p, 0));
        Due.no("13: buyer -1", x.names(s, -1));
        Due.no("13: buyer 10", x.names(s, 10));
        Due.yes("13: buyer 9", x.names(s, 9));
        Due.no("13: it does", x.names(s, 9));
        Due.yes("13: another story", x.names(t, 9));
        Due.yes("13: another buyer", x.names(s, 0));
    }

    private static void eightyItems() {
        PageOne x = Make.desk(1);
        Make.columns(x, 1, 1);
        int f = x.filler(1, 1);
        int s = x.story(1);
        x.put(f, 0, 0, 0, 1);
        x.plate(0);
        for (int i = 2; i < 80; i++) {
            Due.is("4: item " + i, x.story(1), i);
        }
        Due.is("4: the 81st story", x.story(1), -1);
        Due.is("6: the 81st head", x.head(s, 1, 1), -1);
        Due.is("7: the 81st picture", x.picture(), -1);
        Due.is("9: the 81st square", x.paid(0, 0, 0, 0, 1, 1, 1), -1);
        Due.is("10: the 81st filler", x.filler(1, 1), -1);
        Due.is("11: the 81st notice", x.notice(f, 1), -1);
        Due.is("4: items", x.about(2), 80);
        Due.is("5: the last one's line", x.line(79, 5), 1);
        Due.is("24: the last one", x.item(79, 2), 1);
        Due.is("24: none behind it", x.item(80, 0), -1);
        Due.is("30: a bill among 80 items", x.bill(0, 0), 0);
        Due.are("26: what is broken among 80 items", Make.broken(x, 0), 0, -1, -1);
        x.undo();
        Due.is("17: a filler among 80 items", x.fill(0), 1);
        Due.is("17: no other among 80 items", x.fill(1), 0);
        Due.is("21: a day of 80 items", x.day(), 1);
        Due.is("27: printed among 80 items", x.printed(f, 0), 0);
        Due.is("27: not printed among 80 items", x.printed(79, 0), -1);
    }

    private static void itemFacts() {
        PageOne x = Make.desk(9, 9);
        int s = Make.story(x, 1, 5);
        Due.is("24: what -1", x.item(s, -1), -1);
        Due.is("24: what 6", x.item(s, 6), -1);
        Due.is("24: item -1", x.item(-1, 0), -1);
        Due.is("24: item 1", x.item(1, 0), -1);
        Due.is("24: item 100", x.item(100, 0), -1);
        x.put(s, 0, 0, 2, 2);
        x.put(s, 0, 1, 0, 1);
        Due.are("24: two pieces", Make.item(x, s), 0, 2, 5, 3, -1, -1);
        x.lift(s);
        Due.are("24: one piece", Make.item(x, s), 0, 1, 5, 2, -1, -1);
        x.day();
        Due.are("24: the next day", Make.item(x, s), 0, 0, 5, 0, -1, -1);
    }
}
