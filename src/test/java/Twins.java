import java.util.ArrayList;
import java.util.List;
import java.util.function.Predicate;
import java.util.function.Supplier;
import java.util.function.ToIntFunction;

/**
 * Whether a refused call changed nothing: of two desks that were made alike one gets the call, and then both must
 * answer the same calls alike. A desk is promised for 512 calls, so each script of calls has desks of its own.
 */
final class Twins {
    /** At most some 160 calls, so that a desk may come to it with 350. */
    private interface Script {
        void run(PageOne x, List<Integer> told);
    }

    private static final int[] PAGES = {0, 1, 2, 11};
    private static final int[] LINES = {0, 1, 2, 3, 4};
    private static final int ITEMS = 8;
    private static final List<Script> SCRIPTS = scripts();

    private Twins() {
    }

    static void none(String what, Supplier<PageOne> made, ToIntFunction<PageOne> call) {
        refuses(what, made, call, -1);
    }

    static void no(String what, Supplier<PageOne> made, Predicate<PageOne> call) {
        refuses(what, made, x -> call.test(x) ? 1 : 0, 0);
    }

    private static void refuses(String what, Supplier<PageOne> made, ToIntFunction<PageOne> call, int want) {
        for (int s = 0; s < SCRIPTS.size(); s++) {
            PageOne x = made.get();
            int got = call.applyAsInt(x);
            Due.is(what, got, want);
            if (got != want) {
                return;
            }
            List<Integer> with = told(SCRIPTS.get(s), x);
            List<Integer> without = told(SCRIPTS.get(s), made.get());
            Due.yes(what + ": changes nothing, script " + s, with.equals(without));
        }
    }

    private static List<Integer> told(Script script, PageOne x) {
        List<Integer> told = new ArrayList<>();
        script.run(x, told);
        return told;
    }

    private static List<Script> scripts() {
        List<Script> all = new ArrayList<>();
        all.add(Twins::askTotals);
        for (int page : PAGES) {
            all.add((x, told) -> askPage(x, page, told));
        }
        for (int i = 0; i < ITEMS; i++) {
            int item = i;
            all.add((x, told) -> askItem(x, item, told));
            all.add((x, told) -> putItem(x, item, told));
            all.add((x, told) -> enrich(x, item, told));
        }
        all.add(Twins::befriend);
        all.add(Twins::takeBack);
        all.add(Twins::measureAll);
        all.add(Twins::goOn);
        return all;
    }

    private static void askTotals(PageOne x, List<Integer> told) {
        for (int what = 0; what < 5; what++) {
            told.add(x.about(what));
        }
        for (int buyer = 0; buyer < 10; buyer++) {
            for (int day = 0; day < 3; day++) {
                told.add(x.bill(buyer, day));
            }
        }
        for (int page = 0; page < 12; page++) {
            told.add(x.broken(page, 0));
            told.add(x.plateOf(page, 0));
            told.add(x.shortOf(page, 0));
        }
    }

    private static void askPage(PageOne x, int page, List<Integer> told) {
        for (int what = 0; what < 3; what++) {
            told.add(x.broken(page, what));
            told.add(x.plateOf(page, what));
        }
        for (int column = 0; column < 8; column++) {
            told.add(x.shortOf(page, column));
            for (int line : LINES) {
                told.add(x.cell(page, column, line));
                told.add(x.plated(page, column, line));
            }
        }
    }

    private static void askItem(PageOne x, int item, List<Integer> told) {
        for (int what = 0; what < 7; what++) {
            told.add(x.item(item, what));
            told.add(x.printed(item, what));
            for (int k = 0; k < 3; k++) {
                told.add(x.piece(item, k, what));
            }
        }
    }

    /** Puts the item wherever it may stand, after a lift if it stands; what it is made of shows in where it may. */
    private static void putItem(PageOne x, int item, List<Integer> told) {
        for (int i = 0; i < 3; i++) {
            told.add(x.undo());
        }
        told.add(x.lift(item));
        for (int page = 0; page < 3; page++) {
            for (int column = 0; column < 3; column++) {
                for (int how = 0; how < 5; how++) {
                    int n = x.put(item, page, column, column == 2 ? 0 : 2 - page, how);
                    told.add(n);
                    if (n > 0) {
                        told.add(x.piece(item, n - 1, 4));
                        told.add(x.undo());
                    }
                }
            }
        }
    }

    /** What has come to an item shows in how much more may come. */
    private static void enrich(PageOne x, int item, List<Integer> told) {
        for (int i = 0; i < 5; i++) {
            told.add(x.line(item, 200));
            told.add(x.size(item, 8, 60));
        }
        told.add(x.notice(item, 1));
        told.add(x.head(item, 1, 1));
        told.add(x.picture());
        told.add(x.item(Desks.ITEMS, 0));
    }

    private static void befriend(PageOne x, List<Integer> told) {
        for (int a = 0; a < 10; a++) {
            told.add(x.names(Desks.STORY, a) ? 1 : 0);
            for (int b = a + 1; b < 10; b++) {
                told.add(x.rival(a, b) ? 1 : 0);
            }
        }
        told.add(x.broken(0, 0));
    }

    private static void takeBack(PageOne x, List<Integer> told) {
        for (int i = 0; i < 10; i++) {
            told.add(x.undo());
            told.add(x.shortOf(0, 0));
            told.add(x.shortOf(1, 0));
            told.add(x.shortOf(0, 2));
            told.add(x.shortOf(11, 7));
            told.add(x.item(Desks.STORY, 1));
        }
    }

    /** Stories of one line each, around the measures of a morning's desk and of a new one. */
    private static void measureAll(PageOne x, List<Integer> told) {
        told.add(x.day());
        for (int width : new int[] {50, 51, 60, 61, 100, 101}) {
            int s = x.story(1);
            told.add(x.line(s, width));
            for (int page = 0; page < 12; page++) {
                told.add(x.put(s, page, page == 11 ? 7 : 0, 0, 1));
                told.add(x.lift(s));
            }
        }
    }

    private static void goOn(PageOne x, List<Integer> told) {
        for (int turn = 0; turn < 3; turn++) {
            told.add(x.put(Desks.PAID, 0, 2, 0, 0));
            told.add(x.put(Desks.NOTICE, 2, 0, 0, 0));
            for (int page : PAGES) {
                told.add(x.fill(page));
                told.add(x.plate(page));
                told.add(x.plateOf(page, 1));
            }
            told.add(turn == 1 ? x.day() : x.edition());
            for (int what = 0; what < 5; what++) {
                told.add(x.about(what));
                told.add(x.bill(1, what));
            }
        }
    }
}
