/** Desks in the midst of their work, for calls that are refused there. */
final class Desks {
    static final int STORY = 0;
    static final int HEAD = 1;
    static final int PICTURE = 2;
    static final int PAID = 3;
    static final int FILLER = 4;
    static final int LONG_FILLER = 5;
    static final int NOTICE = 6;
    /** How many items a busy desk has: the seven above. */
    static final int ITEMS = 7;
    static final int[] KINDS = {STORY, HEAD, PICTURE, PAID, FILLER, NOTICE};

    private Desks() {
    }

    static PageOne fresh() {
        return new PageOne();
    }

    /** One item of each kind and a second filler, with pages of columns; nothing stands, no act is kept, day 1. */
    static PageOne morning() {
        PageOne x = new PageOne();
        Make.columns(x, 0, 4, 4, 4);
        Make.columns(x, 1, 4, 4);
        Make.columns(x, 2, 4);
        x.column(11, 7, 2);
        x.measure(0, 60);
        x.measure(1, 50);
        x.story(2);
        for (int i = 0; i < 8; i++) {
            x.line(STORY, 43 + i);
        }
        x.head(STORY, 2, 1);
        x.picture();
        x.size(PICTURE, 2, 1);
        x.size(PICTURE, 1, 2);
        x.paid(1, 0, 2, 0, 1, 2, 30);
        x.filler(1, 2);
        x.filler(3, 4);
        x.rival(1, 2);
        x.names(STORY, 1);
        x.put(LONG_FILLER, 2, 0, 0, 4);
        x.plate(2);
        x.notice(LONG_FILLER, 2);
        x.day();
        return x;
    }

    /** A morning's desk some hours later: a story on two pages, a plate, 7 acts that are kept, edition 1. */
    static PageOne busy() {
        PageOne x = morning();
        x.put(HEAD, 0, 0, 0, 0);
        x.put(STORY, 0, 0, 1, 3);
        x.put(STORY, 1, 0, 0, 3);
        x.put(PAID, 0, 2, 0, 0);
        x.rule(11, 7, 0);
        x.fill(11);
        x.plate(11);
        x.edition();
        x.lift(PAID);
        return x;
    }

    /** A busy desk with as many items as there may be. */
    static PageOne full() {
        PageOne x = busy();
        for (int i = ITEMS; i < 80; i++) {
            x.filler(60, 60);
        }
        return x;
    }

    /** A busy desk on which so many acts are kept: the story's second piece goes and comes, again and again. */
    static PageOne withActs(int acts) {
        PageOne x = busy();
        for (int i = 7; i < acts; i++) {
            if (i % 2 == 1) {
                x.lift(STORY);
            } else {
                x.put(STORY, 1, 0, 0, 3);
            }
        }
        return x;
    }
}
