/** Promise 26: what is broken on a page, in its order and by the least numbers. */
public final class BrokenTest {
    public static void main(String[] args) {
        rivalsBeside();
        rivalsByLeastNumbers();
        namedBeside();
        namedByLeastNumbers();
        headsBeside();
        storyTooShort();
        headWithoutItsStory();
        theirOrder();
        wrongNumbers();
        Due.end();
    }

    private static void rivalsBeside() {
        PageOne x = Make.desk(6, 6, 6);
        int mid = x.paid(1, 0, 1, 2, 1, 2, 5);
        int above = x.paid(2, 0, 1, 1, 1, 1, 5);
        int below = x.paid(2, 0, 1, 4, 1, 1, 5);
        int left = x.paid(2, 0, 0, 3, 1, 3, 5);
        int right = x.paid(2, 0, 2, 0, 1, 3, 5);
        int corner = x.paid(2, 0, 0, 1, 1, 1, 5);
        int apart = x.paid(2, 0, 2, 4, 1, 1, 5);
        Due.yes("12: rivals", x.rival(2, 1));
        x.put(mid, 0, 1, 2, 0);
        x.put(corner, 0, 0, 1, 0);
        Due.are("26: a corner is no neighbour", Make.broken(x, 0), 0, -1, -1);
        x.put(apart, 0, 2, 4, 0);
        Due.are("26: nor is this one", Make.broken(x, 0), 0, -1, -1);
        x.put(above, 0, 1, 1, 0);
        Due.are("26: above", Make.broken(x, 0), 1, mid, above);
        x.undo();
        x.put(below, 0, 1, 4, 0);
        Due.are("26: below", Make.broken(x, 0), 1, mid, below);
        x.undo();
        x.put(left, 0, 0, 3, 0);
        Due.are("26: left", Make.broken(x, 0), 1, mid, left);
        x.undo();
        x.put(right, 0, 2, 0, 0);
        Due.are("26: right", Make.broken(x, 0), 1, mid, right);
        Due.are("26: another page", Make.broken(x, 1), 0, -1, -1);
    }

    private static void rivalsByLeastNumbers() {
        PageOne x = Make.desk(1, 1, 1, 1, 1, 1);
        int a = x.paid(1, 0, 5, 0, 1, 1, 5);
        int b = x.paid(1, 0, 1, 0, 1, 1, 5);
        int c = x.paid(2, 0, 2, 0, 1, 1, 5);
        int d = x.paid(2, 0, 0, 0, 1, 1, 5);
        int e = x.paid(3, 0, 4, 0, 1, 1, 5);
        x.rival(1, 2);
        x.put(a, 0, 5, 0, 0);
        x.put(b, 0, 1, 0, 0);
        x.put(d, 0, 0, 0, 0);
        x.put(e, 0, 4, 0, 0);
        Due.are("26: b beside d", Make.broken(x, 0), 1, b, d);
        x.put(c, 0, 2, 0, 0);
        Due.are("26: b beside c, the lesser other", Make.broken(x, 0), 1, b, c);
        x.rival(3, 1);
        Due.are("26: a beside e, the lesser first", Make.broken(x, 0), 1, a, e);
    }

    private static void namedBeside() {
        PageOne x = Make.desk(6, 6);
        Make.columns(x, 1, 6);
        int s = Make.story(x, 1, 9);
        int p = x.paid(4, 0, 1, 0, 1, 2, 5);
        x.names(s, 3);
        x.put(p, 0, 1, 0, 0);
        x.put(s, 0, 0, 2, 2);
        Due.are("26: not beside it", Make.broken(x, 0), 0, -1, -1);
        x.put(s, 0, 1, 2, 1);
        Due.are("26: another buyer", Make.broken(x, 0), 0, -1, -1);
        x.names(s, 4);
        Due.are("26: its second piece is beside", Make.broken(x, 0), 2, s, p);
        x.undo();
        Due.are("26: its first piece isn't", Make.broken(x, 0), 0, -1, -1);
        x.undo();
        x.put(s, 0, 0, 1, 2);
        Due.are("26: by one line", Make.broken(x, 0), 2, s, p);
        x.undo();
        x.put(s, 1, 0, 0, 2);
        Due.are("26: on another page", Make.broken(x, 0), 0, -1, -1);
        Due.are("26: the other page itself", Make.broken(x, 1), 0, -1, -1);
    }

    private static void namedByLeastNumbers() {
        PageOne x = Make.desk(1, 1, 1, 1);
        int p = x.paid(4, 0, 0, 0, 1, 1, 5);
        int s = Make.story(x, 1, 1);
        int q = x.paid(4, 0, 2, 0, 1, 1, 5);
        int t = Make.story(x, 1, 1);
        x.names(s, 4);
        x.names(t, 4);
        x.put(s, 0, 1, 0, 1);
        x.put(q, 0, 2, 0, 0);
        Due.are("26: the story is lower", Make.broken(x, 0), 2, s, q);
        x.put(p, 0, 0, 0, 0);
        Due.are("26: the square is lower", Make.broken(x, 0), 2, p, s);
        x.lift(s);
        x.put(t, 0, 3, 0, 1);
        Due.are("26: q beside t", Make.broken(x, 0), 2, q, t);
        x.put(s, 0, 1, 0, 1);
        x.lift(p);
        Due.are("26: s beside q", Make.broken(x, 0), 2, s, q);
    }

    private static void headsBeside() {
        PageOne x = Make.desk(9, 9, 9, 9);
        int s = Make.story(x, 1, 20);
        int a = x.head(s, 2, 2);
        int b = x.head(s, 1, 3);
        int c = x.head(s, 2, 1);
        x.put(a, 0, 0, 3, 0);
        x.put(s, 0, 0, 5, 1);
        x.put(s, 0, 2, 5, 2);
        x.put(b, 0, 2, 2, 0);
        Due.are("26: a beside b", Make.broken(x, 0), 3, a, b);
        x.lift(b);
        x.put(b, 0, 2, 0, 0);
        Due.are("26: no line is of both", Make.broken(x, 0), 5, b, -1);
        x.lift(b);
        x.put(b, 0, 3, 2, 0);
        Due.are("26: a column lies between them", Make.broken(x, 0), 5, b, -1);
        x.lift(b);
        x.put(c, 0, 0, 2, 0);
        Due.are("26: one over the other", Make.broken(x, 0), 5, c, -1);
        x.put(b, 0, 2, 2, 0);
        Due.are("26: a beside b, b beside c", Make.broken(x, 0), 3, a, b);
        x.lift(a);
        Due.are("26: b beside c", Make.broken(x, 0), 3, b, c);
    }

    private static void storyTooShort() {
        PageOne x = Make.desk(9, 9);
        Make.columns(x, 1, 9);
        int s = Make.story(x, 3, 9);
        int t = Make.story(x, 9, 9);
        Due.are("26: it doesn't stand", Make.broken(x, 0), 0, -1, -1);
        x.put(t, 0, 1, 0, 8);
        Due.are("26: 8 of 9", Make.broken(x, 0), 4, t, -1);
        x.put(s, 0, 0, 0, 2);
        Due.are("26: 2 of 3, the lesser", Make.broken(x, 0), 4, s, -1);
        x.put(s, 1, 0, 0, 2);
        Due.is("26: the turn takes two", x.item(s, 3), 2);
        Due.are("26: still 2 of 3", Make.broken(x, 0), 4, s, -1);
        Due.are("26: there too", Make.broken(x, 1), 4, s, -1);
        x.put(s, 1, 0, 2, 1);
        Due.are("26: 3 of 3 on all pages", Make.broken(x, 1), 0, -1, -1);
        Due.are("26: the other one", Make.broken(x, 0), 4, t, -1);
        x.lift(t);
        x.put(t, 0, 1, 0, 9);
        Due.are("26: 9 of 9", Make.broken(x, 0), 0, -1, -1);
    }

    private static void headWithoutItsStory() {
        PageOne x = Make.desk(5, 5, 3);
        int s = Make.story(x, 1, 9);
        int t = Make.story(x, 1, 9);
        int h = x.head(s, 3, 2);
        int g = x.head(s, 1, 1);
        x.put(g, 0, 2, 2, 0);
        Due.are("26: the column's last line", Make.broken(x, 0), 5, g, -1);
        x.put(h, 0, 0, 0, 0);
        Due.are("26: both, the lesser", Make.broken(x, 0), 5, h, -1);
        x.put(t, 0, 0, 2, 1);
        Due.are("26: another story", Make.broken(x, 0), 5, h, -1);
        x.put(s, 0, 1, 3, 1);
        Due.are("26: a line lies between", Make.broken(x, 0), 5, h, -1);
        x.lift(s);
        x.put(s, 0, 1, 2, 1);
        Due.are("26: in one of its columns", Make.broken(x, 0), 5, g, -1);
        x.lift(g);
        Due.are("26: nothing", Make.broken(x, 0), 0, -1, -1);
        x.lift(s);
        x.put(s, 0, 0, 4, 1);
        Due.are("26: further down", Make.broken(x, 0), 5, h, -1);

        PageOne y = Make.desk(5, 5, 5);
        int u = Make.story(y, 1, 9);
        int k = y.head(u, 1, 1);
        y.put(k, 0, 1, 2, 0);
        y.put(u, 0, 2, 3, 1);
        Due.are("26: below on the right", Make.broken(y, 0), 5, k, -1);
        y.lift(u);
        y.put(u, 0, 0, 3, 1);
        Due.are("26: below on the left", Make.broken(y, 0), 5, k, -1);
        y.lift(u);
        y.put(u, 0, 1, 1, 1);
        Due.are("26: right above", Make.broken(y, 0), 5, k, -1);
        y.put(u, 0, 1, 3, 1);
        Due.are("26: right below too", Make.broken(y, 0), 0, -1, -1);
    }

    private static void theirOrder() {
        PageOne x = Make.desk(2, 2, 2, 2);
        int s = Make.story(x, 9, 1);
        int h = x.head(s, 1, 1);
        int g = x.head(s, 1, 1);
        int p = x.paid(1, 0, 2, 0, 1, 1, 1);
        int q = x.paid(2, 0, 3, 0, 1, 1, 1);
        x.names(s, 1);
        x.rival(1, 2);
        x.put(g, 0, 1, 0, 0);
        Due.are("26: 5", Make.broken(x, 0), 5, g, -1);
        x.put(s, 0, 2, 1, 1);
        Due.are("26: 4 before 5", Make.broken(x, 0), 4, s, -1);
        x.put(h, 0, 0, 0, 0);
        Due.are("26: 3 before 4", Make.broken(x, 0), 3, h, g);
        x.put(p, 0, 2, 0, 0);
        Due.are("26: 2 before 3", Make.broken(x, 0), 2, s, p);
        x.put(q, 0, 3, 0, 0);
        Due.are("26: 1 before 2", Make.broken(x, 0), 1, p, q);
        Due.is("26: what -1 of a broken page", x.broken(0, -1), -1);
        Due.is("26: what 3 of a broken page", x.broken(0, 3), -1);
    }

    private static void wrongNumbers() {
        PageOne x = Make.desk(1);
        Due.is("26: page -1", x.broken(-1, 0), -1);
        Due.is("26: page 12", x.broken(12, 0), -1);
        Due.is("26: what -1", x.broken(0, -1), -1);
        Due.is("26: what 3", x.broken(0, 3), -1);
    }
}
