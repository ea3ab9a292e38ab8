import java.util.function.IntPredicate;

/** The two ends of what a number may be. */
final class Bounds {
    private Bounds() {
    }

    /** Low and high are taken; the numbers next to them, and those far off, are not. */
    static void are(String what, int low, int high, IntPredicate taken) {
        Due.yes(what + " " + low, taken.test(low));
        Due.yes(what + " " + high, taken.test(high));
        for (int beyond : beyond(low, high)) {
            Due.no(what + " " + beyond, taken.test(beyond));
        }
    }

    /** What is not taken on either side: next to the ends, and where sums with it wrap around. */
    static int[] beyond(int low, int high) {
        return new int[] {low - 1, high + 1, low - 256, high + 256, low - 65536, high + 65536,
            Integer.MIN_VALUE, Integer.MIN_VALUE + 1, Integer.MAX_VALUE - 1, Integer.MAX_VALUE};
    }
}
