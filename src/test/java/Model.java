import java.util.ArrayList;
import java.util.Comparator;
import java.util.HashMap;
import java.util.List;
import java.util.Map;
import java.util.Set;
import java.util.HashSet;
import java.util.TreeMap;

/**
 * The document once more, told in another way: the day's acts are a list that is played anew whenever
 * something is asked, and all plates that count are kept, so that nothing has to be remembered beside them.
 */
final class Model {
    record Cell(int page, int column, int line) {
    }

    record Block(int item, int page, int column, int line, int w, int h) {
        List<Cell> cells() {
            List<Cell> all = new ArrayList<>();
            for (int c = column; c < column + w; c++) {
                for (int l = line; l < line + h; l++) {
                    all.add(new Cell(page, c, l));
                }
            }
            return all;
        }
    }

    /** An act: what came, or the item whose last piece went (came is null). */
    record Deed(List<Block> came, int went) {
    }

    record Thing(int kind, int[] facts, List<Integer> widths, List<int[]> sizes, Set<Integer> named) {
    }

    record Plate(int day, int edition, int page, Map<Cell, Integer> signs, int[] lines, Map<Integer, Cell> firsts) {
    }

    private final int[][] lines = new int[12][8];
    private final int[] measures = new int[12];
    private final List<Thing> things = new ArrayList<>();
    private final List<Deed> deeds = new ArrayList<>();
    private final List<Plate> plates = new ArrayList<>();
    private final Set<Integer> rivals = new HashSet<>();
    private int day = 0;
    private int edition = 0;
    private Map<Integer, List<Block>> standing = new HashMap<>();
    private Map<Cell, Integer> signs = new HashMap<>();

    Model() {
        java.util.Arrays.fill(measures, 100);
    }

    private void play() {
        standing = new HashMap<>();
        signs = new HashMap<>();
        for (Deed d : deeds) {
            if (d.came == null) {
                List<Block> of = standing.get(d.went);
                of.remove(of.size() - 1);
            } else {
                for (Block b : d.came) {
                    standing.computeIfAbsent(b.item, i -> new ArrayList<>()).add(b);
                }
            }
        }
        for (List<Block> of : standing.values()) {
            for (Block b : of) {
                for (Cell c : b.cells()) {
                    signs.put(c, b.item);
                }
            }
        }
    }

    private void act(Deed d) {
        deeds.add(d);
        play();
    }

    private static boolean in(int x, int low, int high) {
        return low <= x && x <= high;
    }

    private boolean exists(Cell c) {
        return in(c.page, 0, 11) && in(c.column, 0, 7) && in(c.line, 0, lines[c.page][c.column] - 1);
    }

    private boolean isEmpty(Cell c) {
        return exists(c) && !signs.containsKey(c);
    }

    private int kind(int item) {
        return in(item, 0, things.size() - 1) ? things.get(item).kind : -1;
    }

    private List<Block> blocks(int item) {
        return standing.getOrDefault(item, new ArrayList<>());
    }

    private int add(int kind, int... facts) {
        if (things.size() == 80) {
            return -1;
        }
        things.add(new Thing(kind, facts, new ArrayList<>(), new ArrayList<>(), new HashSet<>()));
        return things.size() - 1;
    }

    int column(int page, int column, int n) {
        if (!in(page, 0, 11) || !in(column, 0, 7) || !in(n, 0, 60) || !deeds.isEmpty()) {
            return 0;
        }
        lines[page][column] = n;
        return 1;
    }

    int measure(int page, int m) {
        if (!in(page, 0, 11) || !in(m, 1, 200) || !deeds.isEmpty()) {
            return 0;
        }
        measures[page] = m;
        return 1;
    }

    int story(int least) {
        return in(least, 1, 80) ? add(0, least) : -1;
    }

    int line(int story, int width) {
        if (kind(story) != 0 || !in(width, 1, 200) || things.get(story).widths.size() == 80) {
            return -1;
        }
        things.get(story).widths.add(width);
        return things.get(story).widths.size();
    }

    int head(int story, int w, int h) {
        return kind(story) == 0 && in(w, 1, 8) && in(h, 1, 9) ? add(1, story, w, h) : -1;
    }

    int picture() {
        return add(2);
    }

    int size(int picture, int w, int h) {
        if (kind(picture) != 2 || !in(w, 1, 8) || !in(h, 1, 60) || things.get(picture).sizes.size() == 4) {
            return -1;
        }
        things.get(picture).sizes.add(new int[] {w, h});
        return things.get(picture).sizes.size();
    }

    int paid(int buyer, int page, int column, int line, int w, int h, int price) {
        boolean fits = in(page, 0, 11) && in(w, 1, 8) && in(h, 1, 60) && in(column, 0, 7) && in(line, 0, 59)
                && column + w <= 8 && line + h <= 60;
        return fits && in(buyer, 0, 9) && in(price, 0, 1000) ? add(3, buyer, page, column, line, w, h, price) : -1;
    }

    int filler(int least, int most) {
        return 1 <= least && least <= most && most <= 60 ? add(4, least, most) : -1;
    }

    int notice(int item, int h) {
        if (kind(item) == -1 || kind(item) == 5 || !in(h, 1, 20) || firstPlate(item) == null) {
            return -1;
        }
        for (Thing t : things) {
            if (t.kind == 5 && t.facts[0] == item) {
                return -1;
            }
        }
        return add(5, item, h);
    }

    int rival(int a, int b) {
        if (!in(a, 0, 9) || !in(b, 0, 9) || a == b) {
            return 0;
        }
        return rivals.add(Math.min(a, b) * 10 + Math.max(a, b)) ? 1 : 0;
    }

    int names(int story, int buyer) {
        return kind(story) == 0 && in(buyer, 0, 9) && things.get(story).named.add(buyer) ? 1 : 0;
    }

    private int[] shape(int item, int how) {
        Thing t = things.get(item);
        switch (t.kind) {
            case 0: return new int[] {1, how};
            case 1: return how == 0 ? new int[] {t.facts[1], t.facts[2]} : null;
            case 2: return in(how, 0, t.sizes.size() - 1) ? t.sizes.get(how) : null;
            case 3: return how == 0 ? new int[] {t.facts[4], t.facts[5]} : null;
            case 4: return in(how, t.facts[0], t.facts[1]) ? new int[] {1, how} : null;
            default: return how == 0 ? new int[] {1, t.facts[1]} : null;
        }
    }

    private static int taken(List<Block> of, int k) {
        int n = of.get(k).h;
        if (k > 0 && of.get(k - 1).page < of.get(k).page) {
            n -= 1;
        }
        if (k < of.size() - 1 && of.get(k + 1).page > of.get(k).page) {
            n -= 1;
        }
        return n;
    }

    private static int from(List<Block> of, int k) {
        return k == 0 ? 0 : from(of, k - 1) + taken(of, k - 1);
    }

    private boolean storyHolds(int item, List<Block> of) {
        Thing t = things.get(item);
        if (of.size() > 6) {
            return false;
        }
        for (int k = 0; k < of.size(); k++) {
            Block b = of.get(k);
            if (k > 0) {
                Block a = of.get(k - 1);
                long place = b.page * 10000L + b.column * 100L + b.line;
                if (place <= a.page * 10000L + a.column * 100L + a.line) {
                    return false;
                }
            }
            if (taken(of, k) < 1) {
                return false;
            }
            for (int i = from(of, k); i < from(of, k) + taken(of, k); i++) {
                if (i >= t.widths.size() || t.widths.get(i) > measures[b.page]) {
                    return false;
                }
            }
        }
        return true;
    }

    private boolean noticeHolds(int item, Block b) {
        int mended = things.get(item).facts[0];
        Plate p = firstPlate(mended);
        if (p == null || p.day >= day) {
            return false;
        }
        for (Plate own : plates) {
            if (own.firsts.containsKey(item) && own.day < day) {
                return false;
            }
        }
        return b.page > p.page || b.page == p.page && b.column >= p.firsts.get(mended).column;
    }

    int put(int item, int page, int column, int line, int how) {
        if (kind(item) == -1 || deeds.size() == 300 || !in(line, 0, 59) || !in(column, 0, 7) || !in(page, 0, 11)) {
            return -1;
        }
        int[] s = shape(item, how);
        if (s == null || !in(s[1], 1, 60)) {
            return -1;
        }
        Block b = new Block(item, page, column, line, s[0], s[1]);
        for (Cell c : b.cells()) {
            if (!isEmpty(c)) {
                return -1;
            }
        }
        List<Block> of = new ArrayList<>(blocks(item));
        of.add(b);
        Thing t = things.get(item);
        if (t.kind == 0 ? !storyHolds(item, of) : of.size() > 1) {
            return -1;
        }
        if (t.kind == 3 && (page != t.facts[1] || column != t.facts[2] || line != t.facts[3])) {
            return -1;
        }
        if (t.kind == 5 && !noticeHolds(item, b)) {
            return -1;
        }
        act(new Deed(List.of(b), -1));
        return of.size();
    }

    int lift(int item) {
        if (kind(item) == -1 || blocks(item).isEmpty() || deeds.size() == 300) {
            return -1;
        }
        act(new Deed(null, item));
        return blocks(item).size();
    }

    int rule(int page, int column, int line) {
        if (!isEmpty(new Cell(page, column, line)) || deeds.size() == 300) {
            return 0;
        }
        act(new Deed(List.of(new Block(100, page, column, line, 1, 1)), -1));
        return 1;
    }

    int fill(int page) {
        if (!in(page, 0, 11) || deeds.size() == 300) {
            return -1;
        }
        List<Block> came = new ArrayList<>();
        Set<Integer> used = new HashSet<>();
        for (int column = 0; column < 8; column++) {
            for (int line = 0; line < 60; line++) {
                boolean starts = isEmpty(new Cell(page, column, line)) && !isEmpty(new Cell(page, column, line - 1));
                if (!starts) {
                    continue;
                }
                int n = 1;
                while (isEmpty(new Cell(page, column, line + n))) {
                    n++;
                }
                for (int i = 0; i < things.size(); i++) {
                    if (kind(i) == 4 && blocks(i).isEmpty() && !used.contains(i) && shape(i, n) != null) {
                        came.add(new Block(i, page, column, line, 1, n));
                        used.add(i);
                        break;
                    }
                }
            }
        }
        if (!came.isEmpty()) {
            act(new Deed(came, -1));
        }
        return came.size();
    }

    int undo() {
        if (deeds.isEmpty()) {
            return -1;
        }
        deeds.remove(deeds.size() - 1);
        play();
        return deeds.size();
    }

    int plate(int page) {
        if (!in(page, 0, 11) || broken(page, 0) != 0) {
            return -1;
        }
        Map<Cell, Integer> held = new HashMap<>();
        Map<Integer, Cell> firsts = new HashMap<>();
        for (int column = 0; column < 8; column++) {
            for (int line = 0; line < lines[page][column]; line++) {
                Cell c = new Cell(page, column, line);
                if (isEmpty(c)) {
                    return -1;
                }
                held.put(c, signs.get(c));
            }
        }
        if (held.isEmpty()) {
            return -1;
        }
        for (int i = 0; i < things.size(); i++) {
            for (Block b : blocks(i)) {
                if (b.page == page) {
                    firsts.putIfAbsent(i, new Cell(page, b.column, b.line));
                }
            }
        }
        plates.removeIf(p -> p.day == day && p.edition == edition && p.page == page);
        plates.add(new Plate(day, edition, page, held, lines[page].clone(), firsts));
        return held.size();
    }

    int edition() {
        return edition == 7 ? -1 : ++edition;
    }

    int day() {
        if (day == 399) {
            return -1;
        }
        deeds.clear();
        play();
        edition = 0;
        return ++day;
    }

    int cell(int page, int column, int line) {
        Cell c = new Cell(page, column, line);
        return exists(c) ? signs.getOrDefault(c, -2) : -1;
    }

    int piece(int item, int k, int what) {
        if (kind(item) == -1 || !in(k, 0, blocks(item).size() - 1) || !in(what, 0, 6)) {
            return -1;
        }
        List<Block> of = blocks(item);
        Block b = of.get(k);
        boolean isStory = kind(item) == 0;
        int first = isStory ? from(of, k) : 0;
        int many = isStory ? taken(of, k) : 0;
        return new int[] {b.page, b.column, b.line, b.w, b.h, first, many}[what];
    }

    private int stand(int story) {
        return from(blocks(story), blocks(story).size());
    }

    int item(int item, int what) {
        if (kind(item) == -1 || !in(what, 0, 5)) {
            return -1;
        }
        Thing t = things.get(item);
        int come = t.kind == 0 ? t.widths.size() : -1;
        int stand = t.kind == 0 ? stand(item) : -1;
        int owner = t.kind == 1 || t.kind == 5 ? t.facts[0] : -1;
        int buyer = t.kind == 3 ? t.facts[0] : -1;
        return new int[] {t.kind, blocks(item).size(), come, stand, owner, buyer}[what];
    }

    int shortOf(int page, int column) {
        if (!in(page, 0, 11) || !in(column, 0, 7)) {
            return -1;
        }
        int n = 0;
        for (int line = 0; line < 60; line++) {
            n += isEmpty(new Cell(page, column, line)) ? 1 : 0;
        }
        return n;
    }

    private int clash(int a, int b, boolean sideways) {
        Thing s = things.get(a);
        Thing t = things.get(b);
        if (s.kind == 3 && t.kind == 3) {
            int low = Math.min(s.facts[0], t.facts[0]);
            int high = Math.max(s.facts[0], t.facts[0]);
            return rivals.contains(low * 10 + high) ? 1 : 0;
        }
        if (s.kind == 3 && t.kind == 0) {
            return t.named.contains(s.facts[0]) ? 2 : 0;
        }
        if (s.kind == 0 && t.kind == 3) {
            return s.named.contains(t.facts[0]) ? 2 : 0;
        }
        return s.kind == 1 && t.kind == 1 && a != b && sideways ? 3 : 0;
    }

    /** All that is broken on a page: kind, item and other item as one number, so that the first is the least. */
    private TreeMap<Integer, int[]> breaches(int page) {
        TreeMap<Integer, int[]> all = new TreeMap<>();
        int[][] steps = {{0, 1}, {0, -1}, {1, 0}, {-1, 0}};
        for (Map.Entry<Cell, Integer> e : signs.entrySet()) {
            Cell c = e.getKey();
            if (c.page != page || e.getValue() == 100) {
                continue;
            }
            for (int[] step : steps) {
                int other = signs.getOrDefault(new Cell(page, c.column + step[0], c.line + step[1]), 100);
                int kind = other == 100 ? 0 : clash(e.getValue(), other, step[0] != 0);
                if (kind > 0) {
                    int low = Math.min(e.getValue(), other);
                    int high = Math.max(e.getValue(), other);
                    all.put(kind * 10000 + low * 100 + high, new int[] {kind, low, high});
                }
            }
        }
        for (int i = 0; i < things.size(); i++) {
            for (Block b : blocks(i)) {
                if (b.page != page) {
                    continue;
                }
                if (kind(i) == 0 && stand(i) < things.get(i).facts[0]) {
                    all.put(40000 + i * 100, new int[] {4, i, -1});
                }
                boolean over = false;
                for (int c = b.column; c < b.column + b.w; c++) {
                    over |= kind(i) == 1 && cell(page, c, b.line + b.h) == things.get(i).facts[0];
                }
                if (kind(i) == 1 && !over) {
                    all.put(50000 + i * 100, new int[] {5, i, -1});
                }
            }
        }
        return all;
    }

    int broken(int page, int what) {
        if (!in(page, 0, 11) || !in(what, 0, 2)) {
            return -1;
        }
        TreeMap<Integer, int[]> all = breaches(page);
        return all.isEmpty() ? (what == 0 ? 0 : -1) : all.firstEntry().getValue()[what];
    }

    private Plate firstPlate(int item) {
        return plates.stream().filter(p -> p.firsts.containsKey(item))
                .min(Comparator.comparingInt(p -> (p.day * 8 + p.edition) * 12 + p.page)).orElse(null);
    }

    private Plate lastPlate(int page) {
        return plates.stream().filter(p -> p.page == page)
                .max(Comparator.comparingInt(p -> p.day * 8 + p.edition)).orElse(null);
    }

    int printed(int item, int what) {
        Plate p = kind(item) == -1 ? null : firstPlate(item);
        if (p == null || !in(what, 0, 4)) {
            return -1;
        }
        Cell c = p.firsts.get(item);
        return new int[] {p.day, p.edition, p.page, c.column, c.line}[what];
    }

    int plated(int page, int column, int line) {
        Plate p = lastPlate(page);
        return p == null ? -1 : p.signs.getOrDefault(new Cell(page, column, line), -1);
    }

    int plateOf(int page, int what) {
        Plate p = lastPlate(page);
        return p == null || !in(what, 0, 1) ? -1 : what == 0 ? p.day : p.edition;
    }

    int bill(int buyer, int day) {
        if (!in(buyer, 0, 9) || !in(day, 0, this.day)) {
            return -1;
        }
        int sum = 0;
        for (int i = 0; i < things.size(); i++) {
            int item = i;
            Thing t = things.get(i);
            if (t.kind == 3 && t.facts[0] == buyer
                    && plates.stream().anyMatch(p -> p.day == day && p.firsts.containsKey(item))) {
                sum += t.facts[4] * t.facts[5] * t.facts[6];
            }
        }
        return sum;
    }

    int about(int what) {
        if (!in(what, 0, 4)) {
            return -1;
        }
        int now = (int) plates.stream().filter(p -> p.day == day && p.edition == edition).count();
        return new int[] {day, edition, things.size(), deeds.size(), now}[what];
    }
}
