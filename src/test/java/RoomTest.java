import java.lang.management.ManagementFactory;
import java.lang.reflect.Array;
import java.lang.reflect.Field;
import java.lang.reflect.Modifier;
import java.util.ArrayDeque;
import java.util.Collections;
import java.util.Deque;
import java.util.IdentityHashMap;
import java.util.Set;
import java.util.function.Consumer;

/** The room that all calls of a run live in: what a desk holds, and what each call makes. */
public final class RoomTest {
    private static final int OBJECTS = 600_000;
    private static final int ELEMENTS = 7_300_000;
    private static final int CALLS = 512;
    /** What a call may make, so that 512 of the dearest are still far below the room. */
    private static final int BYTES = 1024;

    public static void main(String[] args) throws Exception {
        aRunOfNewDesks();
        aDeskThatHoldsMost();
        whatEachCallMakes();
        Due.end();
    }

    private static int[] held(Object from) throws Exception {
        Set<Object> seen = Collections.newSetFromMap(new IdentityHashMap<>());
        Deque<Object> open = new ArrayDeque<>();
        open.add(from);
        seen.add(from);
        int elements = 0;
        while (!open.isEmpty()) {
            Object o = open.remove();
            if (o.getClass().isArray()) {
                elements += Array.getLength(o);
                if (o instanceof Object[] row) {
                    for (Object e : row) {
                        visit(e, seen, open);
                    }
                }
                continue;
            }
            for (Class<?> c = o.getClass(); c != Object.class; c = c.getSuperclass()) {
                elements += fields(o, c, seen, open);
            }
        }
        return new int[] {seen.size(), elements};
    }

    private static int fields(Object o, Class<?> c, Set<Object> seen, Deque<Object> open) throws Exception {
        int n = 0;
        for (Field f : c.getDeclaredFields()) {
            if (Modifier.isStatic(f.getModifiers())) {
                continue;
            }
            n++;
            f.setAccessible(true);
            if (!f.getType().isPrimitive()) {
                visit(f.get(o), seen, open);
            }
        }
        return n;
    }

    private static void visit(Object o, Set<Object> seen, Deque<Object> open) {
        if (o != null && seen.add(o)) {
            open.add(o);
        }
    }

    private static void aRunOfNewDesks() throws Exception {
        int[] one = held(new PageOne());
        Due.yes("512 new desks: objects, each " + one[0], one[0] * CALLS <= OBJECTS);
        Due.yes("512 new desks: elements, each " + one[1], one[1] * CALLS <= ELEMENTS);
    }

    /** 80 squares, 12 plates, and acts with what is left of 512 calls. */
    private static PageOne fullDesk() {
        PageOne x = new PageOne();
        for (int page = 0; page < 12; page++) {
            x.column(page, 0, 1);
            x.column(page, 1, 1);
        }
        for (int item = 0; item < 80; item++) {
            Due.is("9: square", x.paid(item % 10, item % 12, 0, 0, 2, 1, 1000), item);
        }
        for (int page = 0; page < 12; page++) {
            x.put(page, page, 0, 0, 0);
            Due.is("19: page " + page, x.plate(page), 2);
        }
        for (int i = 0; i < 144; i++) {
            x.lift(0);
            x.put(0, 0, 0, 0, 0);
        }
        Due.is("31: acts", x.about(3), 300);
        return x;
    }

    private static void aDeskThatHoldsMost() throws Exception {
        int[] full = held(fullDesk());
        Due.yes("a full desk holds few objects: " + full[0], full[0] <= OBJECTS / 100);
        Due.yes("a full desk holds few elements: " + full[1], full[1] <= ELEMENTS / 100);
    }

    private static long made() {
        return ((com.sun.management.ThreadMXBean) ManagementFactory.getThreadMXBean())
                .getThreadAllocatedBytes(Thread.currentThread().getId());
    }

    private static void makesLittle(String what, PageOne x, Consumer<PageOne> call) {
        call.accept(x);
        long before = made();
        for (int i = 0; i < CALLS; i++) {
            call.accept(x);
        }
        long each = (made() - before) / CALLS;
        Due.yes(what + " makes " + each + " bytes", each <= BYTES);
    }

    private static void whatEachCallMakes() {
        for (PageOne x : new PageOne[] {fullDesk(), Desks.full(), Desks.busy(), Desks.morning()}) {
            makesLittle("column", x, d -> d.column(0, 0, 1));
            makesLittle("measure", x, d -> d.measure(0, 100));
            makesLittle("line", x, d -> d.line(0, 10));
            makesLittle("size", x, d -> d.size(Desks.PICTURE, 1, 1));
            makesLittle("rival", x, d -> d.rival(1, 2));
            makesLittle("names", x, d -> d.names(0, 1));
            makesLittle("put", x, d -> d.put(Desks.STORY, 0, 1, 1, 1));
            makesLittle("lift", x, d -> d.lift(Desks.STORY));
            makesLittle("rule", x, d -> d.rule(0, 0, 0));
            makesLittle("fill", x, d -> d.fill(0));
            makesLittle("plate", x, d -> d.plate(11));
            makesLittle("undo", x, PageOne::undo);
            makesLittle("cell", x, d -> d.cell(0, 0, 0));
            makesLittle("piece", x, d -> d.piece(0, 0, 6));
            makesLittle("item", x, d -> d.item(0, 3));
            makesLittle("shortOf", x, d -> d.shortOf(0, 0));
            makesLittle("broken", x, d -> d.broken(0, 0));
            makesLittle("printed", x, d -> d.printed(0, 0));
            makesLittle("plated", x, d -> d.plated(11, 0, 0));
            makesLittle("plateOf", x, d -> d.plateOf(11, 0));
            makesLittle("bill", x, d -> d.bill(1, 0));
            makesLittle("about", x, d -> d.about(4));
            makesLittle("edition", x, PageOne::edition);
            makesLittle("day", x, PageOne::day);
            makesLittle("story", x, d -> d.story(1));
            makesLittle("head", x, d -> d.head(0, 1, 1));
            makesLittle("picture", x, PageOne::picture);
            makesLittle("paid", x, d -> d.paid(0, 0, 0, 0, 1, 1, 1));
            makesLittle("filler", x, d -> d.filler(1, 1));
            makesLittle("notice", x, d -> d.notice(Desks.LONG_FILLER, 1));
        }
    }
}
