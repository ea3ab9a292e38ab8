/** Makes desks and items that many tests begin with, and reads rows of facts. */
final class Make {
    private Make() {
    }

    /** A desk whose page 0 has columns of so many lines. */
    static PageOne desk(int... lines) {
        PageOne x = new PageOne();
        columns(x, 0, lines);
        return x;
    }

    static void columns(PageOne x, int page, int... lines) {
        for (int column = 0; column < lines.length; column++) {
            Due.yes("column", x.column(page, column, lines[column]));
        }
    }

    /** A story of so many lines of width 10. */
    static int story(PageOne x, int least, int lines) {
        int s = x.story(least);
        for (int i = 1; i <= lines; i++) {
            Due.is("line", x.line(s, 10), i);
        }
        return s;
    }

    static int[] piece(PageOne x, int item, int k) {
        int[] facts = new int[7];
        for (int what = 0; what < facts.length; what++) {
            facts[what] = x.piece(item, k, what);
        }
        return facts;
    }

    static int[] item(PageOne x, int item) {
        int[] facts = new int[6];
        for (int what = 0; what < facts.length; what++) {
            facts[what] = x.item(item, what);
        }
        return facts;
    }

    static int[] broken(PageOne x, int page) {
        return new int[] {x.broken(page, 0), x.broken(page, 1), x.broken(page, 2)};
    }

    static int[] printed(PageOne x, int item) {
        int[] facts = new int[5];
        for (int what = 0; what < facts.length; what++) {
            facts[what] = x.printed(item, what);
        }
        return facts;
    }

    static int[] about(PageOne x) {
        int[] facts = new int[5];
        for (int what = 0; what < facts.length; what++) {
            facts[what] = x.about(what);
        }
        return facts;
    }

    /** The cells of a column, from the top. */
    static int[] column(PageOne x, int page, int column, int lines) {
        int[] facts = new int[lines];
        for (int line = 0; line < lines; line++) {
            facts[line] = x.cell(page, column, line);
        }
        return facts;
    }

    /** Rules on a page's free cells; it asks for no more cells than there are, as a desk is promised for 512 calls. */
    static void ruleRest(PageOne x, int page) {
        for (int column = 0; column < 8; column++) {
            int left = x.shortOf(page, column);
            for (int line = 0; line < 60 && left > 0; line++) {
                if (x.cell(page, column, line) == -2) {
                    Due.yes("rule", x.rule(page, column, line));
                    left--;
                }
            }
        }
    }
}
