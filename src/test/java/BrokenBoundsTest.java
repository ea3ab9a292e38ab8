/** The boundaries of promise 26 and of what part II calls broken. */
public final class BrokenBoundsTest {
    public static void main(String[] args) {
        numbers();
        nothingIsBroken();
        rivalsAroundASquare();
        storyAroundASquare();
        headsAroundAHead();
        columnsEndsAreNoNeighbours();
        aColumnOfNoLinesIsBetween();
        pagesAreNoNeighbours();
        aStorysOtherPageIsItsOwn();
        onlyRivalsAndNamed();
        leastLines();
        leastOnAllPages();
        belowAHead();
        belowAHeadAtTheColumnsEnd();
        leastNumbersOfRivals();
        leastNumbersOfNamed();
        leastNumbersOfHeads();
        leastNumbersOfSingles();
        firstOfTheFive();
        Due.end();
    }

    private static PageOne shortStory() {
        PageOne x = new PageOne();
        for (int page = 0; page < 12; page++) {
            x.column(page, 0, 1);
        }
        int s = x.story(2);
        x.line(s, 1);
        return x;
    }

    private static void numbers() {
        Bounds.are("26: page", 0, 11, p -> {
            PageOne x = shortStory();
            x.put(0, p, 0, 0, 1);
            return x.broken(p, 0) == 4 && x.broken(p, 1) == 0;
        });
        PageOne x = Make.desk(1, 1);
        x.rival(0, 1);
        x.paid(0, 0, 0, 0, 1, 1, 1);
        x.paid(1, 0, 1, 0, 1, 1, 1);
        x.put(0, 0, 0, 0, 0);
        x.put(1, 0, 1, 0, 0);
        Due.are("26: what 0, 1 and 2", Make.broken(x, 0), 1, 0, 1);
        for (int what : Bounds.beyond(0, 2)) {
            Due.is("26: what " + what, x.broken(0, what), -1);
            Due.is("26: what " + what + " of a page that isn't broken", x.broken(1, what), -1);
        }
        for (int page : Bounds.beyond(0, 11)) {
            Due.are("26: page " + page, Make.broken(x, page), -1, -1, -1);
        }
    }

    private static void nothingIsBroken() {
        Due.are("26: a page without columns", Make.broken(new PageOne(), 11), 0, -1, -1);
        Due.are("26: an empty page", Make.broken(Make.desk(3), 0), 0, -1, -1);
        PageOne x = Make.desk(2, 2);
        x.rule(0, 0, 0);
        x.rule(0, 1, 0);
        Due.are("26: rules beside one another", Make.broken(x, 0), 0, -1, -1);
        int s = x.story(80);
        x.head(s, 1, 1);
        Due.are("26: what doesn't stand breaks nothing", Make.broken(x, 0), 0, -1, -1);
    }

    private static boolean isIn(int x, int low, int high) {
        return x >= low && x <= high;
    }

    /** Whether a cell is a neighbour of the square on columns 2 and 3, lines 2 to 4. */
    private static boolean isNeighbour(int column, int line) {
        boolean beside = (column == 1 || column == 4) && isIn(line, 2, 4);
        boolean above = (line == 1 || line == 5) && isIn(column, 2, 3);
        return beside || above;
    }

    private static boolean isWithin(int column, int line) {
        return isIn(column, 2, 3) && isIn(line, 2, 4);
    }

    private static void rivalsAroundASquare() {
        for (int column = 0; column < 6; column++) {
            for (int line = 0; line < 7; line++) {
                if (isWithin(column, line)) {
                    continue;
                }
                PageOne x = Make.desk(7, 7, 7, 7, 7, 7);
                x.rival(3, 4);
                int small = x.paid(3, 0, column, line, 1, 1, 1);
                int large = x.paid(4, 0, 2, 2, 2, 3, 1);
                x.put(small, 0, column, line, 0);
                x.put(large, 0, 2, 2, 0);
                boolean meets = isNeighbour(column, line);
                Due.are("26: a rival on " + column + " " + line, Make.broken(x, 0),
                        meets ? 1 : 0, meets ? small : -1, meets ? large : -1);
            }
        }
    }

    private static void storyAroundASquare() {
        for (int column = 0; column < 6; column++) {
            for (int line = 0; line < 7; line++) {
                if (isWithin(column, line)) {
                    continue;
                }
                PageOne x = Make.desk(7, 7, 7, 7, 7, 7);
                int large = x.paid(4, 0, 2, 2, 2, 3, 1);
                int s = Make.story(x, 1, 1);
                x.names(s, 4);
                x.put(s, 0, column, line, 1);
                x.put(large, 0, 2, 2, 0);
                boolean meets = isNeighbour(column, line);
                Due.are("26: a story on " + column + " " + line, Make.broken(x, 0),
                        meets ? 2 : 0, meets ? large : -1, meets ? s : -1);
            }
        }
    }

    private static void headsAroundAHead() {
        for (int column = 0; column < 6; column++) {
            for (int line = 0; line < 7; line++) {
                if (isWithin(column, line)) {
                    continue;
                }
                PageOne x = Make.desk(7, 7, 7, 7, 7, 7);
                int s = x.story(1);
                int small = x.head(s, 1, 1);
                int large = x.head(s, 2, 3);
                x.put(small, 0, column, line, 0);
                x.put(large, 0, 2, 2, 0);
                boolean meets = (column == 1 || column == 4) && isIn(line, 2, 4);
                Due.are("26: a head on " + column + " " + line, Make.broken(x, 0),
                        meets ? 3 : 5, small, meets ? large : -1);
            }
        }
    }

    private static PageOne wholePage() {
        return Make.desk(60, 60, 60, 60, 60, 60, 60, 60);
    }

    /** A column's last line is no neighbour of the next one's first, nor the last column of the first. */
    private static void columnsEndsAreNoNeighbours() {
        int[][] pairs = {{0, 59, 1, 0}, {6, 59, 7, 0}, {0, 0, 7, 0}, {0, 59, 7, 59}, {0, 0, 0, 59}, {7, 0, 7, 59}};
        for (int[] p : pairs) {
            PageOne x = wholePage();
            x.rival(0, 1);
            int a = x.paid(0, 0, p[0], p[1], 1, 1, 1);
            int b = x.paid(1, 0, p[2], p[3], 1, 1, 1);
            Due.is("26: both stand", x.put(a, 0, p[0], p[1], 0) + x.put(b, 0, p[2], p[3], 0), 2);
            Due.are("26: squares at the page's ends", Make.broken(x, 0), 0, -1, -1);
            PageOne y = wholePage();
            int s = y.story(1);
            int h = y.head(s, 1, 1);
            int g = y.head(s, 1, 1);
            y.put(h, 0, p[0], p[1], 0);
            y.put(g, 0, p[2], p[3], 0);
            Due.are("26: heads at the page's ends", Make.broken(y, 0), 5, h, -1);
        }
        int[][] beside = {{0, 0, 0, 1}, {0, 0, 1, 0}, {7, 59, 6, 59}, {7, 59, 7, 58}};
        for (int[] p : beside) {
            PageOne x = wholePage();
            x.rival(0, 1);
            int a = x.paid(0, 0, p[0], p[1], 1, 1, 1);
            int b = x.paid(1, 0, p[2], p[3], 1, 1, 1);
            x.put(a, 0, p[0], p[1], 0);
            x.put(b, 0, p[2], p[3], 0);
            Due.are("26: neighbours in the page's corners", Make.broken(x, 0), 1, a, b);
        }
    }

    private static void aColumnOfNoLinesIsBetween() {
        PageOne x = Make.desk(3, 0, 3);
        x.rival(0, 1);
        int a = x.paid(0, 0, 0, 0, 1, 3, 1);
        int b = x.paid(1, 0, 2, 0, 1, 3, 1);
        x.put(a, 0, 0, 0, 0);
        x.put(b, 0, 2, 0, 0);
        Due.are("26: the column between has no cells", Make.broken(x, 0), 0, -1, -1);
        PageOne y = Make.desk(1, 3);
        y.rival(0, 1);
        int c = y.paid(0, 0, 0, 0, 1, 1, 1);
        int d = y.paid(1, 0, 1, 1, 1, 2, 1);
        y.put(c, 0, 0, 0, 0);
        y.put(d, 0, 1, 1, 0);
        Due.are("26: a shorter column ends above", Make.broken(y, 0), 0, -1, -1);
    }

    private static void pagesAreNoNeighbours() {
        PageOne x = Make.desk(1, 1);
        Make.columns(x, 1, 1, 1);
        x.rival(0, 1);
        int a = x.paid(0, 0, 0, 0, 1, 1, 1);
        int b = x.paid(1, 1, 1, 0, 1, 1, 1);
        int s = x.story(1);
        int h = x.head(s, 1, 1);
        int g = x.head(s, 1, 1);
        x.put(a, 0, 0, 0, 0);
        x.put(b, 1, 1, 0, 0);
        Due.are("26: rivals on two pages", Make.broken(x, 0), 0, -1, -1);
        Due.are("26: the other page", Make.broken(x, 1), 0, -1, -1);
        x.put(h, 0, 1, 0, 0);
        x.put(g, 1, 0, 0, 0);
        Due.are("26: heads on two pages", Make.broken(x, 0), 5, h, -1);
        Due.are("26: the other one on its page", Make.broken(x, 1), 5, g, -1);
    }

    private static void aStorysOtherPageIsItsOwn() {
        PageOne x = Make.desk(2, 2);
        Make.columns(x, 1, 2, 2);
        int s = Make.story(x, 1, 9);
        int here = x.paid(4, 0, 1, 0, 1, 2, 1);
        int there = x.paid(5, 1, 1, 0, 1, 2, 1);
        x.put(s, 0, 0, 0, 2);
        x.put(s, 1, 0, 0, 2);
        x.put(here, 0, 1, 0, 0);
        x.put(there, 1, 1, 0, 0);
        x.names(s, 5);
        Due.are("26: beside it on page 1 alone, asked of page 0", Make.broken(x, 0), 0, -1, -1);
        Due.are("26: beside it on page 1 alone, asked of page 1", Make.broken(x, 1), 2, s, there);
        Due.is("19: page 0 can be plated", x.plate(0), 4);
        Due.is("19: page 1 can't", x.plate(1), -1);
        x.names(s, 4);
        Due.are("26: on each page its own", Make.broken(x, 0), 2, s, here);
        Due.are("26: on the other page its own", Make.broken(x, 1), 2, s, there);
    }

    private static void onlyRivalsAndNamed() {
        PageOne x = Make.desk(1, 1, 1);
        int a = x.paid(1, 0, 0, 0, 1, 1, 1);
        int b = x.paid(2, 0, 1, 0, 1, 1, 1);
        int s = Make.story(x, 1, 1);
        x.put(a, 0, 0, 0, 0);
        x.put(b, 0, 1, 0, 0);
        x.put(s, 0, 2, 0, 1);
        Due.are("26: no rivals, none named", Make.broken(x, 0), 0, -1, -1);
        x.rival(1, 3);
        x.rival(3, 2);
        x.names(s, 1);
        x.names(s, 3);
        Due.are("26: others' rivals, others named", Make.broken(x, 0), 0, -1, -1);
        x.names(s, 2);
        Due.are("26: named", Make.broken(x, 0), 2, b, s);
        x.rival(2, 1);
        Due.are("26: rivals", Make.broken(x, 0), 1, a, b);
        PageOne y = Make.desk(1, 1);
        int c = y.paid(1, 0, 0, 0, 1, 1, 1);
        int d = y.paid(1, 0, 1, 0, 1, 1, 1);
        y.rival(1, 2);
        y.put(c, 0, 0, 0, 0);
        y.put(d, 0, 1, 0, 0);
        Due.are("26: two squares of one buyer", Make.broken(y, 0), 0, -1, -1);
    }

    private static void leastLines() {
        for (int least : new int[] {1, 2, 59, 60}) {
            for (int n = Math.max(1, least - 1); n <= Math.min(60, least + 1); n++) {
                PageOne x = Make.desk(60);
                int s = Make.story(x, least, 60);
                x.put(s, 0, 0, 0, n);
                boolean few = n < least;
                Due.are("26: " + n + " of least " + least, Make.broken(x, 0), few ? 4 : 0, few ? s : -1, -1);
            }
        }
        PageOne x = Make.desk(9);
        int s = Make.story(x, 9, 3);
        x.put(s, 0, 0, 0, 3);
        Due.are("26: more are due than have come", Make.broken(x, 0), 4, s, -1);
        x.lift(s);
        Due.are("26: it doesn't stand any more", Make.broken(x, 0), 0, -1, -1);
    }

    private static void leastOnAllPages() {
        PageOne x = Make.desk(5);
        Make.columns(x, 1, 5);
        Make.columns(x, 2, 5);
        int s = Make.story(x, 5, 20);
        x.put(s, 0, 0, 0, 4);
        x.put(s, 2, 0, 0, 2);
        Due.is("26: four lines on six cells", x.item(s, 3), 4);
        Due.are("26: too few on page 0", Make.broken(x, 0), 4, s, -1);
        Due.are("26: too few on page 2", Make.broken(x, 2), 4, s, -1);
        Due.are("26: page 1 has no piece of it", Make.broken(x, 1), 0, -1, -1);
        x.lift(s);
        x.put(s, 2, 0, 0, 3);
        Due.are("26: five lines on seven cells", Make.broken(x, 0), 0, -1, -1);
        Due.are("26: on page 2 too", Make.broken(x, 2), 0, -1, -1);
    }

    private static void belowAHead() {
        for (int column = 0; column < 6; column++) {
            for (int line = 0; line < 7; line++) {
                if (isWithin(column, line)) {
                    continue;
                }
                PageOne x = Make.desk(7, 7, 7, 7, 7, 7);
                int s = Make.story(x, 1, 1);
                int h = x.head(s, 2, 3);
                x.put(h, 0, 2, 2, 0);
                x.put(s, 0, column, line, 1);
                boolean below = line == 5 && isIn(column, 2, 3);
                Due.are("26: the story on " + column + " " + line, Make.broken(x, 0), below ? 0 : 5, below ? -1 : h, -1);
            }
        }
        PageOne x = Make.desk(3);
        int s = Make.story(x, 1, 1);
        int t = Make.story(x, 1, 1);
        int h = x.head(s, 1, 1);
        x.put(h, 0, 0, 0, 0);
        x.put(t, 0, 0, 1, 1);
        Due.are("26: another's story", Make.broken(x, 0), 5, h, -1);
        x.lift(t);
        x.rule(0, 0, 1);
        Due.are("26: a rule", Make.broken(x, 0), 5, h, -1);
    }

    private static void belowAHeadAtTheColumnsEnd() {
        PageOne x = wholePage();
        int s = Make.story(x, 1, 2);
        int h = x.head(s, 1, 9);
        x.put(h, 0, 0, 51, 0);
        x.put(s, 0, 1, 0, 1);
        Due.are("26: nothing is below the last line", Make.broken(x, 0), 5, h, -1);
        x.lift(h);
        x.lift(s);
        x.put(h, 0, 7, 50, 0);
        x.put(s, 0, 7, 59, 1);
        Due.are("26: the last line is below", Make.broken(x, 0), 0, -1, -1);
        PageOne y = Make.desk(2, 3, 2);
        int t = Make.story(y, 1, 1);
        int g = y.head(t, 3, 2);
        y.put(g, 0, 0, 0, 0);
        Due.are("26: one column alone goes on below", Make.broken(y, 0), 5, g, -1);
        y.put(t, 0, 1, 2, 1);
        Due.are("26: and holds its story", Make.broken(y, 0), 0, -1, -1);
    }

    private static void leastNumbersOfRivals() {
        PageOne x = Make.desk(1, 1, 1, 1, 1, 1, 1, 1);
        x.rival(0, 1);
        int[] columns = {4, 6, 7, 1, 5, 0, 2};
        for (int i = 0; i < columns.length; i++) {
            x.paid(columns[i] % 2, 0, columns[i], 0, 1, 1, 1);
        }
        for (int i = columns.length - 1; i >= 0; i--) {
            x.put(i, 0, columns[i], 0, 0);
        }
        Due.are("26: 0 is beside 4", Make.broken(x, 0), 1, 0, 4);
        x.lift(0);
        Due.are("26: 1 is beside 2 and 4", Make.broken(x, 0), 1, 1, 2);
        x.lift(2);
        Due.are("26: 1 is beside 4", Make.broken(x, 0), 1, 1, 4);
        x.lift(4);
        Due.are("26: 3 is beside 5 and 6", Make.broken(x, 0), 1, 3, 5);
        x.lift(5);
        Due.are("26: 3 is beside 6", Make.broken(x, 0), 1, 3, 6);
        x.lift(6);
        Due.are("26: none is left", Make.broken(x, 0), 0, -1, -1);
    }

    private static void leastNumbersOfNamed() {
        PageOne x = Make.desk(3, 3, 3);
        int high = x.paid(0, 0, 0, 2, 1, 1, 1);
        int s = Make.story(x, 1, 9);
        int left = x.paid(0, 0, 0, 0, 1, 1, 1);
        int right = x.paid(0, 0, 2, 0, 1, 1, 1);
        x.names(s, 0);
        x.put(s, 0, 1, 0, 1);
        x.put(right, 0, 2, 0, 0);
        Due.are("26: the story and its right square", Make.broken(x, 0), 2, s, right);
        x.put(left, 0, 0, 0, 0);
        Due.are("26: the story and the lesser of two", Make.broken(x, 0), 2, s, left);
        x.put(high, 0, 0, 2, 0);
        Due.are("26: not beside yet", Make.broken(x, 0), 2, s, left);
        x.put(s, 0, 1, 1, 2);
        Due.are("26: a square of a lower number than the story's", Make.broken(x, 0), 2, high, s);
    }

    private static void leastNumbersOfHeads() {
        PageOne x = Make.desk(2, 2, 2, 2, 2);
        int s = x.story(1);
        int[] heads = {0, x.head(s, 1, 1), x.head(s, 1, 1), x.head(s, 1, 1), x.head(s, 1, 1)};
        int[] columns = {-1, 3, 1, 2, 0};
        for (int i = 4; i >= 2; i--) {
            x.put(heads[i], 0, columns[i], 0, 0);
        }
        Due.are("26: 2 is beside 3 and 4", Make.broken(x, 0), 3, 2, 3);
        x.put(heads[1], 0, columns[1], 0, 0);
        Due.are("26: 1 is beside 3", Make.broken(x, 0), 3, 1, 3);
        x.lift(heads[3]);
        Due.are("26: 2 is beside 4", Make.broken(x, 0), 3, 2, 4);
    }

    private static void leastNumbersOfSingles() {
        PageOne x = Make.desk(3, 3, 3, 3);
        int s = Make.story(x, 2, 9);
        int t = Make.story(x, 2, 9);
        int h = x.head(s, 1, 1);
        int g = x.head(t, 1, 1);
        x.put(g, 0, 0, 0, 0);
        Due.are("26: the one head", Make.broken(x, 0), 5, g, -1);
        x.put(h, 0, 2, 0, 0);
        Due.are("26: the lesser head", Make.broken(x, 0), 5, h, -1);
        x.put(t, 0, 1, 0, 1);
        Due.are("26: the one story", Make.broken(x, 0), 4, t, -1);
        x.put(s, 0, 3, 0, 1);
        Due.are("26: the lesser story", Make.broken(x, 0), 4, s, -1);
    }

    /** All five at once, taken away one by one. */
    private static void firstOfTheFive() {
        PageOne x = Make.desk(2, 2, 2, 2, 2);
        int s = Make.story(x, 2, 2);
        int h = x.head(s, 1, 1);
        int g = x.head(s, 1, 1);
        int p = x.paid(0, 0, 0, 0, 1, 1, 1);
        int q = x.paid(1, 0, 1, 0, 1, 1, 1);
        x.rival(0, 1);
        x.names(s, 0);
        x.put(p, 0, 0, 0, 0);
        x.put(q, 0, 1, 0, 0);
        x.put(s, 0, 0, 1, 1);
        x.put(h, 0, 3, 0, 0);
        x.put(g, 0, 4, 0, 0);
        Due.are("26: 1 of all five", Make.broken(x, 0), 1, p, q);
        x.lift(q);
        Due.are("26: then 2", Make.broken(x, 0), 2, s, p);
        x.lift(p);
        Due.are("26: then 3", Make.broken(x, 0), 3, h, g);
        x.lift(g);
        Due.are("26: then 4", Make.broken(x, 0), 4, s, -1);
        x.put(s, 0, 1, 1, 1);
        Due.are("26: then 5", Make.broken(x, 0), 5, h, -1);
        x.lift(h);
        Due.are("26: then nothing", Make.broken(x, 0), 0, -1, -1);
    }
}
