import java.util.Arrays;
import java.util.List;
import java.util.Map;
import java.util.Random;
import java.util.Set;
import java.util.TreeMap;
import java.util.TreeSet;
import java.util.function.ToIntBiFunction;

/**
 * Every call with any numbers at any time: no call throws, and each answers as the model does. The numbers are drawn
 * from what the document names, what lies next to that, and what lies far off.
 */
public final class AnyNumbersTest {
    private static final int RUNS = 1000;
    private static final int CALLS = 512;
    private static final int[] NUMBERS = {Integer.MIN_VALUE, Integer.MIN_VALUE + 1, Integer.MIN_VALUE + 60, -65536,
        -480, -257, -61, -60, -8, -3, -2, -1, 6, 7, 8, 9, 10, 11, 12, 19, 20, 21, 58, 59, 60, 61, 79, 80, 81, 99, 100,
        101, 199, 200, 201, 299, 300, 301, 399, 400, 479, 480, 481, 999, 1000, 1001, 65535, 65536,
        Integer.MAX_VALUE - 60, Integer.MAX_VALUE - 8, Integer.MAX_VALUE - 1, Integer.MAX_VALUE};

    private record Call(String name, ToIntBiFunction<PageOne, int[]> desk, ToIntBiFunction<Model, int[]> model) {
    }

    private static int truth(boolean b) {
        return b ? 1 : 0;
    }

    private static final List<Call> ALL = List.of(
            new Call("column", (x, a) -> truth(x.column(a[0], a[1], a[2])), (m, a) -> m.column(a[0], a[1], a[2])),
            new Call("measure", (x, a) -> truth(x.measure(a[0], a[1])), (m, a) -> m.measure(a[0], a[1])),
            new Call("story", (x, a) -> x.story(a[0]), (m, a) -> m.story(a[0])),
            new Call("line", (x, a) -> x.line(a[0], a[1]), (m, a) -> m.line(a[0], a[1])),
            new Call("head", (x, a) -> x.head(a[0], a[1], a[2]), (m, a) -> m.head(a[0], a[1], a[2])),
            new Call("picture", (x, a) -> x.picture(), (m, a) -> m.picture()),
            new Call("size", (x, a) -> x.size(a[0], a[1], a[2]), (m, a) -> m.size(a[0], a[1], a[2])),
            new Call("paid", (x, a) -> x.paid(a[0], a[1], a[2], a[3], a[4], a[5], a[6]),
                    (m, a) -> m.paid(a[0], a[1], a[2], a[3], a[4], a[5], a[6])),
            new Call("filler", (x, a) -> x.filler(a[0], a[1]), (m, a) -> m.filler(a[0], a[1])),
            new Call("notice", (x, a) -> x.notice(a[0], a[1]), (m, a) -> m.notice(a[0], a[1])),
            new Call("rival", (x, a) -> truth(x.rival(a[0], a[1])), (m, a) -> m.rival(a[0], a[1])),
            new Call("names", (x, a) -> truth(x.names(a[0], a[1])), (m, a) -> m.names(a[0], a[1])),
            new Call("put", (x, a) -> x.put(a[0], a[1], a[2], a[3], a[4]), (m, a) -> m.put(a[0], a[1], a[2], a[3], a[4])),
            new Call("lift", (x, a) -> x.lift(a[0]), (m, a) -> m.lift(a[0])),
            new Call("rule", (x, a) -> truth(x.rule(a[0], a[1], a[2])), (m, a) -> m.rule(a[0], a[1], a[2])),
            new Call("fill", (x, a) -> x.fill(a[0]), (m, a) -> m.fill(a[0])),
            new Call("undo", (x, a) -> x.undo(), (m, a) -> m.undo()),
            new Call("plate", (x, a) -> x.plate(a[0]), (m, a) -> m.plate(a[0])),
            new Call("edition", (x, a) -> x.edition(), (m, a) -> m.edition()),
            new Call("day", (x, a) -> x.day(), (m, a) -> m.day()),
            new Call("cell", (x, a) -> x.cell(a[0], a[1], a[2]), (m, a) -> m.cell(a[0], a[1], a[2])),
            new Call("piece", (x, a) -> x.piece(a[0], a[1], a[2]), (m, a) -> m.piece(a[0], a[1], a[2])),
            new Call("item", (x, a) -> x.item(a[0], a[1]), (m, a) -> m.item(a[0], a[1])),
            new Call("shortOf", (x, a) -> x.shortOf(a[0], a[1]), (m, a) -> m.shortOf(a[0], a[1])),
            new Call("broken", (x, a) -> x.broken(a[0], a[1]), (m, a) -> m.broken(a[0], a[1])),
            new Call("printed", (x, a) -> x.printed(a[0], a[1]), (m, a) -> m.printed(a[0], a[1])),
            new Call("plated", (x, a) -> x.plated(a[0], a[1], a[2]), (m, a) -> m.plated(a[0], a[1], a[2])),
            new Call("plateOf", (x, a) -> x.plateOf(a[0], a[1]), (m, a) -> m.plateOf(a[0], a[1])),
            new Call("bill", (x, a) -> x.bill(a[0], a[1]), (m, a) -> m.bill(a[0], a[1])),
            new Call("about", (x, a) -> x.about(a[0]), (m, a) -> m.about(a[0])));

    public static void main(String[] args) {
        Map<String, Set<Integer>> answers = new TreeMap<>();
        for (int seed = 1; seed <= RUNS; seed++) {
            run(new Random(seed), seed, answers);
        }
        for (Call call : ALL) {
            Due.yes(call.name + ": it was taken, and refused", answers.get(call.name).size() > 1);
        }
        Due.end();
    }

    /** How far off the numbers are is the run's own: runs of small numbers do more, runs of odd ones dare more. */
    private static void run(Random draw, int seed, Map<String, Set<Integer>> answers) {
        PageOne x = new PageOne();
        Model m = new Model();
        for (int i = 0; i < CALLS; i++) {
            Call call = ALL.get(draw.nextInt(ALL.size()));
            int[] a = new int[7];
            for (int k = 0; k < a.length; k++) {
                boolean near = draw.nextInt(8) < seed % 8;
                a[k] = near ? draw.nextInt(3) : NUMBERS[draw.nextInt(NUMBERS.length)];
            }
            int got = call.desk.applyAsInt(x, a);
            int want = call.model.applyAsInt(m, a);
            Due.is("seed " + seed + ", call " + i + ", " + call.name + Arrays.toString(a), got, want);
            answers.computeIfAbsent(call.name, name -> new TreeSet<>()).add(got);
        }
    }
}
