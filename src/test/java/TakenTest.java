import java.util.Arrays;
import java.util.List;
import java.util.function.Consumer;

/**
 * Calls are refused for what their own sentences name and for nothing else: each call on a later day, in a later
 * edition, on the last day, with acts kept, among 80 items, on pages that were plated, of items that stand or were
 * printed.
 */
public final class TakenTest {
    private static final int STORY = 0;
    private static final int HEAD = 1;
    private static final int PICTURE = 2;
    private static final int PAID = 3;
    private static final int FILLER = 4;
    private static final int PRINTED = 5;
    private static final int MENDED = 6;
    private static final int NOTICE = 7;
    private static final int ITEMS = 8;

    /** Where each of the first five stands, and how it is put there. */
    private static final int[][] PLACES = {{0, 1, 2}, {0, 0, 0}, {1, 1, 0}, {1, 0, 0}, {1, 2, 1}};

    /** What has happened on the desk when a call comes, and what is known of it then. */
    private record Ground(String name, Consumer<PageOne> turn, int day, int edition, int items, int acts) {
    }

    private static final List<Ground> GROUNDS = List.of(
            new Ground("nothing since", x -> { }, 0, 0, ITEMS, 0),
            new Ground("the next day", PageOne::day, 1, 0, ITEMS, 0),
            new Ground("the last day", x -> days(x, 399), 399, 0, ITEMS, 0),
            new Ground("the next edition", PageOne::edition, 0, 1, ITEMS, 0),
            new Ground("the last edition", x -> editions(x, 7), 0, 7, ITEMS, 0),
            new Ground("the next day's next edition", TakenTest::nextDaysEdition, 1, 1, ITEMS, 0),
            new Ground("one act", x -> x.rule(0, 0, 3), 0, 0, ITEMS, 1),
            new Ground("one act, the next edition", TakenTest::actThenEdition, 0, 1, ITEMS, 1),
            new Ground("one act, the last edition", TakenTest::actThenLastEdition, 0, 7, ITEMS, 1),
            new Ground("one act of the last day", TakenTest::lastDaysAct, 399, 0, ITEMS, 1),
            new Ground("299 acts", x -> acts(x, 299), 0, 0, ITEMS, 299),
            new Ground("300 acts", x -> acts(x, 300), 0, 0, ITEMS, 300),
            new Ground("300 acts of a later day", TakenTest::nextDaysActs, 1, 0, ITEMS, 300),
            new Ground("79 items", x -> items(x, 79), 0, 0, 79, 0),
            new Ground("80 items", x -> items(x, 80), 0, 0, 80, 0),
            new Ground("a page that was plated", TakenTest::plateRules, 0, 0, ITEMS, 0),
            new Ground("all stand", TakenTest::standAll, 0, 0, ITEMS, 6),
            new Ground("all were printed", TakenTest::printAll, 0, 0, ITEMS, 0),
            new Ground("all were printed the day before", TakenTest::printAllThenDay, 1, 0, ITEMS, 0),
            new Ground("all were printed in the edition before", TakenTest::printAllThenEdition, 0, 1, ITEMS, 0));

    public static void main(String[] args) {
        for (Ground g : GROUNDS) {
            isAsItSays(g);
            pages(g);
            items(g);
            additions(g);
            acts(g);
            puts(g);
            turns(g);
            questions(g);
            questionsOfWhatStands(g);
        }
        questionsAtThreeHundredActs();
        totalsOfAllAtOnce();
        Due.end();
    }

    /** An item of each kind; two fillers were printed on page 1, of which one has a notice; no act is kept. */
    private static PageOne desk(Ground g) {
        PageOne x = Make.desk(4, 4);
        Make.columns(x, 1, 2);
        Make.columns(x, 3, 1);
        Make.story(x, 1, 3);
        x.head(STORY, 1, 1);
        x.picture();
        x.size(PICTURE, 1, 1);
        x.paid(0, 0, 1, 0, 1, 1, 5);
        for (int item = FILLER; item <= MENDED; item++) {
            x.filler(1, 1);
        }
        x.put(PRINTED, 1, 0, 0, 1);
        x.put(MENDED, 1, 0, 1, 1);
        x.plate(1);
        x.notice(MENDED, 1);
        x.undo();
        x.undo();
        g.turn.accept(x);
        return x;
    }

    private static void days(PageOne x, int n) {
        for (int i = 0; i < n; i++) {
            x.day();
        }
    }

    private static void editions(PageOne x, int n) {
        for (int i = 0; i < n; i++) {
            x.edition();
        }
    }

    private static void nextDaysEdition(PageOne x) {
        x.day();
        x.edition();
    }

    private static void actThenEdition(PageOne x) {
        x.rule(0, 0, 3);
        x.edition();
    }

    private static void actThenLastEdition(PageOne x) {
        x.rule(0, 0, 3);
        editions(x, 7);
    }

    private static void lastDaysAct(PageOne x) {
        days(x, 399);
        x.rule(0, 0, 3);
    }

    /** The filler comes and goes; it stands in the end. Page 3 is filled by the 300th act. */
    private static void acts(PageOne x, int n) {
        place(x, FILLER);
        for (int i = 0; i < 149; i++) {
            x.lift(FILLER);
            place(x, FILLER);
        }
        if (n == 300) {
            x.fill(3);
        }
    }

    private static void nextDaysActs(PageOne x) {
        x.day();
        acts(x, 300);
    }

    private static void items(PageOne x, int n) {
        for (int i = ITEMS; i < n; i++) {
            x.filler(60, 60);
        }
    }

    private static void plateRules(PageOne x) {
        Make.ruleRest(x, 0);
        Due.is("19: rules", x.plate(0), 8);
        for (int i = 0; i < 8; i++) {
            x.undo();
        }
    }

    private static int place(PageOne x, int item) {
        int[] at = PLACES[item];
        return x.put(item, 0, at[0], at[1], at[2]);
    }

    private static void standAll(PageOne x) {
        for (int item = STORY; item <= FILLER; item++) {
            Due.is("14: item " + item, place(x, item), 1);
        }
        x.rule(0, 0, 3);
    }

    private static void printAll(PageOne x) {
        standAll(x);
        x.rule(0, 1, 3);
        Due.is("19: all", x.plate(0), 8);
        for (int i = 0; i < 7; i++) {
            x.undo();
        }
    }

    private static void printAllThenDay(PageOne x) {
        printAll(x);
        x.day();
    }

    private static void printAllThenEdition(PageOne x) {
        printAll(x);
        x.edition();
    }

    private static void isAsItSays(Ground g) {
        Due.are(g.name, Arrays.copyOf(Make.about(desk(g)), 4), g.day, g.edition, g.items, g.acts);
    }

    private static void pages(Ground g) {
        PageOne x = desk(g);
        boolean taken = g.acts == 0;
        Due.is("2: " + g.name, x.column(0, 2, 5) ? 1 : 0, taken ? 1 : 0);
        Due.is("2: so many lines, " + g.name, x.shortOf(0, 2), taken ? 5 : 0);
        Due.is("2: another's lines, " + g.name, desk(g).column(0, 0, 1) ? 1 : 0, taken ? 1 : 0);
        PageOne y = desk(g);
        Due.is("3: " + g.name, y.measure(0, 9) ? 1 : 0, taken ? 1 : 0);
        if (taken) {
            Due.is("3: it holds, " + g.name, place(y, STORY), -1);
        }
    }

    private static void items(Ground g) {
        int next = g.items < 80 ? g.items : -1;
        Due.is("4: " + g.name, desk(g).story(80), next);
        Due.is("6: " + g.name, desk(g).head(STORY, 2, 2), next);
        Due.is("7: " + g.name, desk(g).picture(), next);
        Due.is("9: " + g.name, desk(g).paid(0, 0, 1, 0, 1, 1, 5), next);
        Due.is("10: " + g.name, desk(g).filler(1, 60), next);
        Due.is("11: " + g.name, desk(g).notice(PRINTED, 20), next);
    }

    private static void additions(Ground g) {
        Due.is("5: " + g.name, desk(g).line(STORY, 10), 4);
        Due.is("8: " + g.name, desk(g).size(PICTURE, 1, 2), 2);
        Due.yes("12: " + g.name, desk(g).rival(0, 1));
        Due.yes("13: " + g.name, desk(g).names(STORY, 5));
    }

    private static void acts(Ground g) {
        boolean taken = g.acts < 300;
        PageOne x = desk(g);
        if (x.item(FILLER, 1) == 0) {
            place(x, FILLER);
        }
        Due.is("15: " + g.name, x.lift(FILLER), taken ? 0 : -1);
        Due.is("16: " + g.name, desk(g).rule(0, 1, 3) ? 1 : 0, taken ? 1 : 0);
        Due.is("17: " + g.name, desk(g).fill(3), taken ? 1 : -1);
        Due.is("18: " + g.name, desk(g).undo(), g.acts - 1);
    }

    private static void puts(Ground g) {
        for (int item = STORY; item <= FILLER; item++) {
            PageOne x = desk(g);
            boolean taken = g.acts < 300 && x.item(item, 1) == 0;
            Due.is("14: item " + item + ", " + g.name, place(x, item), taken ? 1 : -1);
        }
        boolean taken = g.acts < 300 && g.day > 0;
        Due.is("14: the notice, " + g.name, desk(g).put(NOTICE, 1, 0, 0, 0), taken ? 1 : -1);
        Due.is("14: what it mends, " + g.name, desk(g).put(MENDED, 1, 0, 0, 1), g.acts < 300 ? 1 : -1);
    }

    private static void turns(Ground g) {
        PageOne x = desk(g);
        if (g.acts < 300) {
            x.fill(3);
        }
        Due.is("19: " + g.name, x.plate(3), 1);
        Due.is("19: its day, " + g.name, x.plateOf(3, 0), g.day);
        Due.is("19: its edition, " + g.name, x.plateOf(3, 1), g.edition);
        Due.is("20: " + g.name, desk(g).edition(), g.edition < 7 ? g.edition + 1 : -1);
        Due.is("21: " + g.name, desk(g).day(), g.day < 399 ? g.day + 1 : -1);
    }

    private static void questions(Ground g) {
        PageOne x = desk(g);
        Due.are("22: " + g.name, Make.column(x, 1, 0, 3), -2, -2, -1);
        Due.is("25: " + g.name, x.shortOf(1, 0), 2);
        int[] kinds = {0, 1, 2, 3, 4, 4, 4, 5};
        for (int item = 0; item < ITEMS; item++) {
            Due.is("24: kind of item " + item + ", " + g.name, x.item(item, 0), kinds[item]);
        }
        Due.is("24: lines, " + g.name, x.item(STORY, 2), 3);
        Due.is("24: whose head, " + g.name, x.item(HEAD, 4), STORY);
        Due.is("24: whose square, " + g.name, x.item(PAID, 5), 0);
        Due.is("24: what it mends, " + g.name, x.item(NOTICE, 4), MENDED);
        Due.are("26: " + g.name, Make.broken(x, 1), 0, -1, -1);
        Due.are("27: " + g.name, Make.printed(x, MENDED), 0, 0, 1, 0, 1);
        Due.is("28: " + g.name, x.plated(1, 0, 1), MENDED);
        Due.is("29: the day, " + g.name, x.plateOf(1, 0), 0);
        Due.is("29: the edition, " + g.name, x.plateOf(1, 1), 0);
        Due.is("30: " + g.name, x.bill(9, g.day), 0);
        Due.is("30: the next day, " + g.name, x.bill(9, g.day + 1), -1);
    }

    private static void questionsOfWhatStands(Ground g) {
        PageOne x = desk(g);
        if (x.item(FILLER, 1) == 0) {
            place(x, FILLER);
        }
        Due.is("24: pieces, " + g.name, x.item(FILLER, 1), 1);
        Due.are("23: " + g.name, Make.piece(x, FILLER, 0), 0, 1, 2, 1, 1, 0, 0);
        Due.is("22: a filler, " + g.name, x.cell(0, 1, 2), FILLER);
        if (g.acts < 299 && x.item(HEAD, 1) == 0) {
            place(x, HEAD);
            Due.are("26: a head alone, " + g.name, Make.broken(x, 0), 5, HEAD, -1);
            place(x, STORY);
            Due.are("26: with its story, " + g.name, Make.broken(x, 0), 0, -1, -1);
            Due.is("24: two lines stand, " + g.name, x.item(STORY, 3), 2);
            place(x, PAID);
            place(x, PICTURE);
            Make.ruleRest(x, 0);
            Due.is("19: the page, " + g.name, x.plate(0), 8);
            Due.is("28: the square, " + g.name, x.plated(0, 1, 0), PAID);
            Due.is("30: it is owed, " + g.name, x.bill(0, g.day), 5);
            Due.is("29: the page's plate, " + g.name, x.plateOf(0, 0), g.day);
        }
    }

    /** The square was printed; then a head comes without its story, its story comes elsewhere, and 298 acts more. */
    private static void questionsAtThreeHundredActs() {
        PageOne x = desk(new Ground("printed", TakenTest::printAll, 0, 0, ITEMS, 0));
        x.edition();
        place(x, HEAD);
        x.put(STORY, 0, 1, 2, 2);
        for (int i = 0; i < 149; i++) {
            x.lift(HEAD);
            place(x, HEAD);
        }
        Due.are("31: 300 acts", Make.about(x), 0, 1, ITEMS, 300, 0);
        Due.are("26: with 300 acts", Make.broken(x, 0), 5, HEAD, -1);
        Due.is("24: two lines stand", x.item(STORY, 3), 2);
        Due.is("30: what was printed before them", x.bill(0, 0), 5);
        Due.is("19: a page that isn't full", x.plate(0), -1);
        Due.are("18: one less", new int[] {x.undo(), x.item(HEAD, 1)}, 299, 0);
    }

    private static void totalsOfAllAtOnce() {
        PageOne x = desk(new Ground("80 items", y -> items(y, 80), 0, 0, 80, 0));
        days(x, 3);
        editions(x, 7);
        acts(x, 300);
        x.plate(3);
        Due.are("31: all at once", Make.about(x), 3, 7, 80, 300, 1);
        Due.is("24: the last item", x.item(79, 0), 4);
        Due.is("28: page 3", x.plated(3, 0, 0), PRINTED);
        x.day();
        Due.are("31: the next day", Make.about(x), 4, 0, 80, 0, 0);
    }
}
