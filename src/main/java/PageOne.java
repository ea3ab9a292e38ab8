import java.util.Arrays;

/**
 * A desk that makes up a newspaper's pages each night: what stands on them, what may not stand so,
 * what was plated in which edition, and what the buyers of squares owe for it.
 */
public final class PageOne {
    public static final int NONE = -1;

    private static final int PAGES = 12;
    private static final int COLUMNS = 8;
    private static final int MOST_LINES = 60;
    private static final int MOST_WIDTH = 200;
    private static final int FIRST_MEASURE = 100;
    private static final int MOST_ITEMS = 80;
    private static final int MOST_STORY_LINES = 80;
    private static final int MOST_STORY_PIECES = 6;
    private static final int MOST_HEAD_LINES = 9;
    private static final int MOST_SIZES = 4;
    private static final int MOST_NOTICE_LINES = 20;
    private static final int MOST_PRICE = 1000;
    private static final int BUYERS = 10;
    private static final int MOST_ACTS = 300;
    private static final int LAST_EDITION = 7;
    private static final int LAST_DAY = 399;

    private static final int EMPTY = -2;
    private static final int RULE = 100;

    private static final int STORY = 0;
    private static final int HEAD = 1;
    private static final int PICTURE = 2;
    private static final int PAID = 3;
    private static final int FILLER = 4;
    private static final int NOTICE = 5;

    private static final int WHOLE = 0;
    private static final int RIVALS_MEET = 1;
    private static final int NAMED_MEET = 2;
    private static final int HEADS_MEET = 3;
    private static final int STORY_SHORT = 4;
    private static final int HEAD_ALONE = 5;

    private static final int FIRST_DAY = 0;
    private static final int FIRST_EDITION = 1;
    private static final int FIRST_PAGE = 2;
    private static final int FIRST_COLUMN = 3;
    private static final int FIRST_LINE = 4;
    private static final int FIRST_FACTS = 5;

    private final Sheet[] pages = new Sheet[PAGES];
    /** The latest plate of each page; null until the page is plated for the first time. */
    private final Sheet[] plates = new Sheet[PAGES];
    private final Item[] items = new Item[MOST_ITEMS];
    private int itemCount = 0;
    private final Act[] acts = new Act[MOST_ACTS];
    private int actCount = 0;
    private final boolean[] rivals = new boolean[BUYERS * BUYERS];
    private int today = 0;
    private int editionNow = 0;

    public PageOne() {
        for (int page = 0; page < PAGES; page++) {
            pages[page] = new Sheet();
        }
    }

    public boolean column(int page, int column, int lines) {
        if (!isPage(page) || !isColumn(column) || !isWithin(lines, 0, MOST_LINES) || actCount > 0) {
            return false;
        }
        pages[page].lines[column] = lines;
        return true;
    }

    public boolean measure(int page, int m) {
        if (!isPage(page) || !isWithin(m, 1, MOST_WIDTH) || actCount > 0) {
            return false;
        }
        pages[page].measure = m;
        return true;
    }

    public int story(int least) {
        if (!isWithin(least, 1, MOST_STORY_LINES)) {
            return NONE;
        }
        return enter(new Story(itemCount, least));
    }

    public int line(int story, int width) {
        if (!(itemOf(story) instanceof Story s) || !isWithin(width, 1, MOST_WIDTH)) {
            return NONE;
        }
        return s.takeIn(width);
    }

    public int head(int story, int w, int h) {
        if (!(itemOf(story) instanceof Story s) || !isWithin(w, 1, COLUMNS) || !isWithin(h, 1, MOST_HEAD_LINES)) {
            return NONE;
        }
        return enter(new Head(itemCount, s, w, h));
    }

    public int picture() {
        return enter(new Picture(itemCount));
    }

    public int size(int picture, int w, int h) {
        if (!(itemOf(picture) instanceof Picture p) || !isSquare(w, h)) {
            return NONE;
        }
        return p.takeSize(w, h);
    }

    public int paid(int buyer, int page, int column, int line, int w, int h, int price) {
        if (!isBuyer(buyer) || !isPage(page) || !isSquare(w, h) || !isWithin(price, 0, MOST_PRICE)) {
            return NONE;
        }
        if (!isWithin(column, 0, COLUMNS - w) || !isWithin(line, 0, MOST_LINES - h)) {
            return NONE;
        }
        return enter(new Paid(itemCount, buyer, price, new Piece(null, page, column, line, w, h)));
    }

    public int filler(int least, int most) {
        if (!isWithin(most, 1, MOST_LINES) || !isWithin(least, 1, most)) {
            return NONE;
        }
        return enter(new Filler(itemCount, least, most));
    }

    public int notice(int item, int h) {
        Item mended = itemOf(item);
        if (mended == null || mended instanceof Notice || !isWithin(h, 1, MOST_NOTICE_LINES)) {
            return NONE;
        }
        if (firstPrinting(mended, FIRST_DAY) == NONE || hasNotice(mended)) {
            return NONE;
        }
        return enter(new Notice(itemCount, mended, h));
    }

    public boolean rival(int a, int b) {
        if (!isBuyer(a) || !isBuyer(b) || a == b || areRivals(a, b)) {
            return false;
        }
        rivals[a * BUYERS + b] = true;
        rivals[b * BUYERS + a] = true;
        return true;
    }

    public boolean names(int story, int buyer) {
        if (!(itemOf(story) instanceof Story s) || !isBuyer(buyer) || s.named[buyer]) {
            return false;
        }
        s.named[buyer] = true;
        return true;
    }

    public int put(int item, int page, int column, int line, int how) {
        Item it = itemOf(item);
        if (it == null || !isPage(page) || !canAct()) {
            return NONE;
        }
        Piece p = new Piece(it, page, column, line, it.columnsBy(how), it.linesBy(how));
        if (!it.hasRoom() || !pages[page].isFree(p) || !it.maySit(p, pages[page].measure, today)) {
            return NONE;
        }
        stand(p);
        keep(new Act(p, false, null));
        return it.count;
    }

    public int lift(int item) {
        Item it = itemOf(item);
        if (it == null || !canAct()) {
            return NONE;
        }
        Piece p = it.lastPiece();
        if (p == null) {
            return NONE;
        }
        takeOff(p);
        keep(new Act(p, true, null));
        return it.count;
    }

    public boolean rule(int page, int column, int line) {
        if (!isPage(page) || !canAct()) {
            return false;
        }
        Piece p = new Piece(null, page, column, line, 1, 1);
        if (!pages[page].isFree(p)) {
            return false;
        }
        stand(p);
        keep(new Act(p, false, null));
        return true;
    }

    public int fill(int page) {
        if (!isPage(page) || !canAct()) {
            return NONE;
        }
        Act latest = null;
        for (int column = 0; column < COLUMNS; column++) {
            latest = fillColumn(page, column, latest);
        }
        if (latest == null) {
            return 0;
        }
        keep(latest);
        return latest.parts;
    }

    public int undo() {
        if (actCount == 0) {
            return NONE;
        }
        actCount--;
        takeBack(acts[actCount]);
        acts[actCount] = null;
        return actCount;
    }

    public int plate(int page) {
        if (!isPage(page)) {
            return NONE;
        }
        Sheet sheet = pages[page];
        int cells = sheet.cellCount();
        if (cells == 0 || sheet.emptyCount() > 0 || breachOn(page).kind != WHOLE) {
            return NONE;
        }
        if (plates[page] == null) {
            plates[page] = new Sheet();
        }
        plates[page].copyFrom(sheet);
        plates[page].day = today;
        plates[page].edition = editionNow;
        return cells;
    }

    public int edition() {
        if (editionNow >= LAST_EDITION) {
            return NONE;
        }
        closeEdition();
        editionNow++;
        return editionNow;
    }

    public int day() {
        if (today >= LAST_DAY) {
            return NONE;
        }
        closeEdition();
        clearDesk();
        editionNow = 0;
        today++;
        return today;
    }

    public int cell(int page, int column, int line) {
        return isPage(page) ? pages[page].at(column, line) : NONE;
    }

    public int piece(int item, int k, int what) {
        Item it = itemOf(item);
        if (it == null || !isWithin(k, 0, it.count - 1)) {
            return NONE;
        }
        Piece p = it.pieces[k];
        switch (what) {
            case 0: return p.page;
            case 1: return p.column;
            case 2: return p.line;
            case 3: return p.w;
            case 4: return p.h;
            case 5: return it instanceof Story s ? s.takenBefore(k) : 0;
            case 6: return it instanceof Story s ? s.takenBy(k) : 0;
            default: return NONE;
        }
    }

    public int item(int item, int what) {
        Item it = itemOf(item);
        if (it == null) {
            return NONE;
        }
        switch (what) {
            case 0: return it.kind;
            case 1: return it.count;
            case 2: return it instanceof Story s ? s.come : NONE;
            case 3: return it instanceof Story s ? s.standing() : NONE;
            case 4: return ownerOf(it);
            case 5: return it instanceof Paid p ? p.buyer : NONE;
            default: return NONE;
        }
    }

    public int shortOf(int page, int column) {
        return isPage(page) && isColumn(column) ? pages[page].emptyIn(column) : NONE;
    }

    public int broken(int page, int what) {
        if (!isPage(page) || !isWithin(what, 0, 2)) {
            return NONE;
        }
        Breach breach = breachOn(page);
        if (what == 0) {
            return breach.kind;
        }
        return what == 1 ? breach.first : breach.other;
    }

    public int printed(int item, int what) {
        Item it = itemOf(item);
        return it == null ? NONE : firstPrinting(it, what);
    }

    public int plated(int page, int column, int line) {
        return hasPlate(page) ? plates[page].at(column, line) : NONE;
    }

    public int plateOf(int page, int what) {
        if (!hasPlate(page)) {
            return NONE;
        }
        switch (what) {
            case 0: return plates[page].day;
            case 1: return plates[page].edition;
            default: return NONE;
        }
    }

    public int bill(int buyer, int day) {
        if (!isBuyer(buyer) || !isWithin(day, 0, today)) {
            return NONE;
        }
        int owed = 0;
        for (int i = 0; i < itemCount; i++) {
            if (items[i] instanceof Paid p && p.buyer == buyer && wasPrintedOn(p, day)) {
                owed += p.cost();
            }
        }
        return owed;
    }

    public int about(int what) {
        switch (what) {
            case 0: return today;
            case 1: return editionNow;
            case 2: return itemCount;
            case 3: return actCount;
            case 4: return freshPlates();
            default: return NONE;
        }
    }

    private static boolean isWithin(int x, int low, int high) {
        return x >= low && x <= high;
    }

    private static boolean isPage(int page) {
        return isWithin(page, 0, PAGES - 1);
    }

    private static boolean isColumn(int column) {
        return isWithin(column, 0, COLUMNS - 1);
    }

    private static boolean isBuyer(int buyer) {
        return isWithin(buyer, 0, BUYERS - 1);
    }

    private static boolean isSquare(int w, int h) {
        return isWithin(w, 1, COLUMNS) && isWithin(h, 1, MOST_LINES);
    }

    private Item itemOf(int number) {
        return isWithin(number, 0, itemCount - 1) ? items[number] : null;
    }

    private int enter(Item it) {
        if (itemCount >= MOST_ITEMS) {
            return NONE;
        }
        items[itemCount] = it;
        itemCount++;
        return it.number;
    }

    private boolean areRivals(int a, int b) {
        return rivals[a * BUYERS + b];
    }

    private boolean hasNotice(Item mended) {
        for (int i = 0; i < itemCount; i++) {
            if (items[i] instanceof Notice n && n.mended == mended) {
                return true;
            }
        }
        return false;
    }

    private int ownerOf(Item it) {
        if (it instanceof Head head) {
            return head.owner.number;
        }
        return it instanceof Notice n ? n.mended.number : NONE;
    }

    // Acts: what they do on the desk, and how they are kept and taken back.

    private boolean canAct() {
        return actCount < MOST_ACTS;
    }

    private void keep(Act act) {
        if (canAct()) {
            acts[actCount] = act;
            actCount++;
        }
    }

    private void stand(Piece p) {
        pages[p.page].mark(p, p.sign());
        if (p.item != null) {
            p.item.gain(p);
        }
    }

    private void takeOff(Piece p) {
        pages[p.page].mark(p, EMPTY);
        if (p.item != null) {
            p.item.loseLast();
        }
    }

    private void takeBack(Act act) {
        for (Act part = act; part != null; part = part.ahead) {
            if (part.lifted) {
                stand(part.piece);
            } else {
                takeOff(part.piece);
            }
        }
    }

    /** Gives each longest row of empty cells its filler; answers the latest part of the one act. */
    private Act fillColumn(int page, int column, Act ahead) {
        Sheet sheet = pages[page];
        Act latest = ahead;
        int row = 0;
        // One line beyond the last, where no cell is, so that a row at the column's foot ends too.
        for (int line = 0; line <= sheet.lines[column]; line++) {
            if (sheet.at(column, line) == EMPTY) {
                row++;
                continue;
            }
            Filler filler = row > 0 ? fillerFor(row) : null;
            if (filler != null) {
                Piece p = new Piece(filler, page, column, line - row, 1, row);
                stand(p);
                latest = new Act(p, false, latest);
            }
            row = 0;
        }
        return latest;
    }

    private Filler fillerFor(int row) {
        for (int i = 0; i < itemCount; i++) {
            if (items[i] instanceof Filler f && f.hasRoom() && isWithin(row, f.least, f.most)) {
                return f;
            }
        }
        return null;
    }

    private void clearDesk() {
        for (int i = 0; i < itemCount; i++) {
            items[i].loseAll();
        }
        for (int page = 0; page < PAGES; page++) {
            pages[page].clear();
        }
        for (int i = 0; i < actCount; i++) {
            acts[i] = null;
        }
        actCount = 0;
    }

    // What is broken on a page.

    private Breach breachOn(int page) {
        for (int kind = RIVALS_MEET; kind <= HEADS_MEET; kind++) {
            Breach pair = leastPair(page, kind);
            if (pair != null) {
                return pair;
            }
        }
        for (int kind = STORY_SHORT; kind <= HEAD_ALONE; kind++) {
            for (int i = 0; i < itemCount; i++) {
                if (items[i].isOn(page) && failsAlone(items[i], kind)) {
                    return new Breach(kind, i, NONE);
                }
            }
        }
        return new Breach(WHOLE, NONE, NONE);
    }

    private Breach leastPair(int page, int kind) {
        for (int a = 0; a < itemCount; a++) {
            if (!items[a].isOn(page)) {
                continue;
            }
            for (int b = a + 1; b < itemCount; b++) {
                if (mayNotMeet(items[a], items[b], kind) && items[a].meets(items[b], page, kind == HEADS_MEET)) {
                    return new Breach(kind, a, b);
                }
            }
        }
        return null;
    }

    private boolean mayNotMeet(Item a, Item b, int kind) {
        switch (kind) {
            case RIVALS_MEET: return a instanceof Paid p && b instanceof Paid q && areRivals(p.buyer, q.buyer);
            case NAMED_MEET: return isNamedIn(a, b) || isNamedIn(b, a);
            case HEADS_MEET: return a instanceof Head && b instanceof Head;
            default: return false;
        }
    }

    private static boolean isNamedIn(Item square, Item text) {
        return square instanceof Paid p && text instanceof Story s && s.named[p.buyer];
    }

    private boolean failsAlone(Item it, int kind) {
        if (kind == STORY_SHORT) {
            return it instanceof Story s && s.standing() < s.least;
        }
        return it instanceof Head head && !standsOverStory(head);
    }

    private boolean standsOverStory(Head head) {
        Piece p = head.lastPiece();
        if (p == null) {
            return false;
        }
        for (int column = p.column; column < p.column + p.w; column++) {
            if (pages[p.page].at(column, p.line + p.h) == head.owner.number) {
                return true;
            }
        }
        return false;
    }

    // Plates and what they printed.

    private boolean hasPlate(int page) {
        return isPage(page) && plates[page] != null;
    }

    /** Whether the page's latest plate is of the edition at hand, so that it may yet be replaced. */
    private boolean isFresh(int page) {
        return hasPlate(page) && plates[page].day == today && plates[page].edition == editionNow;
    }

    private int freshPlates() {
        int n = 0;
        for (int page = 0; page < PAGES; page++) {
            if (isFresh(page)) {
                n++;
            }
        }
        return n;
    }

    /** What the edition's plates printed is written down for good only now: no plate of it can be replaced any more. */
    private void closeEdition() {
        for (int page = 0; page < PAGES; page++) {
            if (isFresh(page)) {
                writeDown(page);
            }
        }
    }

    private void writeDown(int page) {
        Sheet plate = plates[page];
        for (int column = 0; column < COLUMNS; column++) {
            for (int line = 0; line < plate.lines[column]; line++) {
                Item it = itemOf(plate.at(column, line));
                if (it != null) {
                    writeDownItem(it, page, column * MOST_LINES + line);
                }
            }
        }
    }

    private void writeDownItem(Item it, int page, int spot) {
        if (it.first[FIRST_DAY] == NONE) {
            for (int what = 0; what < FIRST_FACTS; what++) {
                it.first[what] = plateFact(page, spot, what);
            }
        }
        if (it instanceof Paid p) {
            p.days[today] = true;
        }
    }

    private int plateFact(int page, int spot, int what) {
        switch (what) {
            case FIRST_DAY: return plates[page].day;
            case FIRST_EDITION: return plates[page].edition;
            case FIRST_PAGE: return page;
            case FIRST_COLUMN: return spot / MOST_LINES;
            case FIRST_LINE: return spot % MOST_LINES;
            default: return NONE;
        }
    }

    private int firstPrinting(Item it, int what) {
        if (!isWithin(what, 0, FIRST_FACTS - 1)) {
            return NONE;
        }
        if (it.first[FIRST_DAY] != NONE) {
            return it.first[what];
        }
        for (int page = 0; page < PAGES; page++) {
            int spot = isFresh(page) ? plates[page].spotOf(it.number) : NONE;
            if (spot != NONE) {
                return plateFact(page, spot, what);
            }
        }
        return NONE;
    }

    private boolean wasPrintedOn(Paid p, int day) {
        if (p.days[day]) {
            return true;
        }
        int page = p.spot.page;
        return day == today && isFresh(page) && plates[page].spotOf(p.number) != NONE;
    }

    /** A page's columns and cells: as it stands on the desk, or as it was plated. */
    private static final class Sheet {
        final int[] lines = new int[COLUMNS];
        final int[] cells = new int[COLUMNS * MOST_LINES];
        int measure = FIRST_MEASURE;
        /** When it was plated; a page on the desk has none. */
        int day = NONE;
        int edition = NONE;

        Sheet() {
            Arrays.fill(cells, EMPTY);
        }

        int at(int column, int line) {
            if (!isColumn(column) || !isWithin(line, 0, lines[column] - 1)) {
                return NONE;
            }
            return cells[column * MOST_LINES + line];
        }

        boolean isFree(Piece p) {
            if (!isSquare(p.w, p.h) || !isColumn(p.column) || !isWithin(p.line, 0, MOST_LINES - p.h)) {
                return false;
            }
            for (int column = p.column; column < p.column + p.w; column++) {
                for (int line = p.line; line < p.line + p.h; line++) {
                    if (at(column, line) != EMPTY) {
                        return false;
                    }
                }
            }
            return true;
        }

        void mark(Piece p, int sign) {
            for (int column = p.column; column < p.column + p.w; column++) {
                for (int line = p.line; line < p.line + p.h; line++) {
                    if (at(column, line) != NONE) {
                        cells[column * MOST_LINES + line] = sign;
                    }
                }
            }
        }

        int emptyIn(int column) {
            int n = 0;
            for (int line = 0; line < lines[column]; line++) {
                if (at(column, line) == EMPTY) {
                    n++;
                }
            }
            return n;
        }

        int emptyCount() {
            int n = 0;
            for (int column = 0; column < COLUMNS; column++) {
                n += emptyIn(column);
            }
            return n;
        }

        int cellCount() {
            int n = 0;
            for (int column = 0; column < COLUMNS; column++) {
                n += lines[column];
            }
            return n;
        }

        /**
         * Where an item's first cell is, as column * MOST_LINES + line. Pieces on one page follow one another
         * by column, then line, so the first cell that is found is the first piece's first one.
         */
        int spotOf(int number) {
            for (int column = 0; column < COLUMNS; column++) {
                for (int line = 0; line < lines[column]; line++) {
                    if (at(column, line) == number) {
                        return column * MOST_LINES + line;
                    }
                }
            }
            return NONE;
        }

        void clear() {
            Arrays.fill(cells, EMPTY);
        }

        void copyFrom(Sheet other) {
            System.arraycopy(other.lines, 0, lines, 0, COLUMNS);
            System.arraycopy(other.cells, 0, cells, 0, COLUMNS * MOST_LINES);
        }
    }

    /** Cells that belong together: an item's; without an item a rule's one cell, or a square that was sold. */
    private static final class Piece {
        final Item item;
        final int page;
        final int column;
        final int line;
        final int w;
        final int h;

        Piece(Item item, int page, int column, int line, int w, int h) {
            this.item = item;
            this.page = page;
            this.column = column;
            this.line = line;
            this.w = w;
            this.h = h;
        }

        int sign() {
            return item == null ? RULE : item.number;
        }

        boolean isBehind(Piece o) {
            if (page != o.page) {
                return page > o.page;
            }
            return column > o.column || column == o.column && line >= o.line + o.h;
        }

        boolean startsWith(Piece o) {
            return page == o.page && column == o.column && line == o.line;
        }

        boolean isBeside(Piece o) {
            boolean columnsTouch = column + w == o.column || o.column + o.w == column;
            return page == o.page && columnsTouch && line < o.line + o.h && o.line < line + h;
        }

        boolean isOverOrUnder(Piece o) {
            boolean linesTouch = line + h == o.line || o.line + o.h == line;
            return page == o.page && linesTouch && column < o.column + o.w && o.column < column + w;
        }
    }

    /** One act that is kept; a fill's parts hang together, the latest first. */
    private static final class Act {
        final Piece piece;
        final boolean lifted;
        final Act ahead;
        final int parts;

        Act(Piece piece, boolean lifted, Act ahead) {
            this.piece = piece;
            this.lifted = lifted;
            this.ahead = ahead;
            this.parts = ahead == null ? 1 : ahead.parts + 1;
        }
    }

    private static final class Breach {
        final int kind;
        final int first;
        final int other;

        Breach(int kind, int first, int other) {
            this.kind = kind;
            this.first = first;
            this.other = other;
        }
    }

    private abstract static class Item {
        final int number;
        final int kind;
        final Piece[] pieces;
        int count = 0;
        /** The first printing in a closed edition, by FIRST_DAY to FIRST_LINE. */
        final int[] first = new int[FIRST_FACTS];

        Item(int number, int kind, int mostPieces) {
            this.number = number;
            this.kind = kind;
            this.pieces = new Piece[isWithin(mostPieces, 1, MOST_STORY_PIECES) ? mostPieces : 1];
            Arrays.fill(first, NONE);
        }

        /** How many columns a piece has that is put so; 0: none can be put so. */
        int columnsBy(int how) {
            return 1;
        }

        /** How many lines a piece has that is put so; 0: none can be put so. */
        abstract int linesBy(int how);

        /** Whether the item itself lets a piece stand there, on cells that are free. */
        boolean maySit(Piece p, int measure, int today) {
            return true;
        }

        boolean hasRoom() {
            return count < pieces.length;
        }

        void gain(Piece p) {
            if (hasRoom()) {
                pieces[count] = p;
                count++;
            }
        }

        void loseLast() {
            if (count > 0) {
                count--;
                pieces[count] = null;
            }
        }

        void loseAll() {
            for (int k = 0; k < pieces.length; k++) {
                pieces[k] = null;
            }
            count = 0;
        }

        Piece lastPiece() {
            return count > 0 ? pieces[count - 1] : null;
        }

        boolean isOn(int page) {
            for (int k = 0; k < count; k++) {
                if (pieces[k].page == page) {
                    return true;
                }
            }
            return false;
        }

        boolean meets(Item other, int page, boolean sidewaysAlone) {
            for (int k = 0; k < count; k++) {
                if (pieces[k].page == page && other.touches(pieces[k], sidewaysAlone)) {
                    return true;
                }
            }
            return false;
        }

        boolean touches(Piece p, boolean sidewaysAlone) {
            for (int k = 0; k < count; k++) {
                if (pieces[k].isBeside(p) || !sidewaysAlone && pieces[k].isOverOrUnder(p)) {
                    return true;
                }
            }
            return false;
        }
    }

    private static final class Story extends Item {
        final int least;
        final int[] widths = new int[MOST_STORY_LINES];
        int come = 0;
        final boolean[] named = new boolean[BUYERS];

        Story(int number, int least) {
            super(number, STORY, MOST_STORY_PIECES);
            this.least = least;
        }

        int takeIn(int width) {
            if (come >= MOST_STORY_LINES) {
                return NONE;
            }
            widths[come] = width;
            come++;
            return come;
        }

        int linesBy(int how) {
            return isWithin(how, 1, MOST_LINES) ? how : 0;
        }

        boolean maySit(Piece p, int measure, int today) {
            Piece last = lastPiece();
            if (last == null) {
                return canTake(0, p.h, measure);
            }
            // Where the page is turned, the piece ahead gives up its last cell and the new one its first.
            int turn = p.page == last.page ? 0 : 1;
            if (!p.isBehind(last) || takenBy(count - 1) - turn < 1) {
                return false;
            }
            return canTake(standing() - turn, p.h - turn, measure);
        }

        boolean canTake(int from, int n, int measure) {
            if (from < 0 || n < 1 || n > come - from) {
                return false;
            }
            for (int i = from; i < from + n; i++) {
                if (widths[i] > measure) {
                    return false;
                }
            }
            return true;
        }

        int takenBy(int k) {
            if (!isWithin(k, 0, count - 1)) {
                return 0;
            }
            int n = pieces[k].h;
            if (k > 0 && pieces[k - 1].page != pieces[k].page) {
                n--;
            }
            if (k + 1 < count && pieces[k + 1].page != pieces[k].page) {
                n--;
            }
            return n;
        }

        int takenBefore(int k) {
            int n = 0;
            for (int i = 0; i < k && i < count; i++) {
                n += takenBy(i);
            }
            return n;
        }

        int standing() {
            return takenBefore(count);
        }
    }

    private static final class Head extends Item {
        final Story owner;
        final int w;
        final int h;

        Head(int number, Story owner, int w, int h) {
            super(number, HEAD, 1);
            this.owner = owner;
            this.w = w;
            this.h = h;
        }

        int columnsBy(int how) {
            return how == 0 ? w : 0;
        }

        int linesBy(int how) {
            return how == 0 ? h : 0;
        }
    }

    private static final class Picture extends Item {
        final int[] widths = new int[MOST_SIZES];
        final int[] heights = new int[MOST_SIZES];
        int sizes = 0;

        Picture(int number) {
            super(number, PICTURE, 1);
        }

        int takeSize(int w, int h) {
            if (sizes >= MOST_SIZES) {
                return NONE;
            }
            widths[sizes] = w;
            heights[sizes] = h;
            sizes++;
            return sizes;
        }

        int columnsBy(int how) {
            return isWithin(how, 0, sizes - 1) ? widths[how] : 0;
        }

        int linesBy(int how) {
            return isWithin(how, 0, sizes - 1) ? heights[how] : 0;
        }
    }

    private static final class Paid extends Item {
        final int buyer;
        final int price;
        /** The cells that were sold, whether it stands on them or not. */
        final Piece spot;
        /** The days on which a plate of a closed edition printed it. */
        final boolean[] days = new boolean[LAST_DAY + 1];

        Paid(int number, int buyer, int price, Piece spot) {
            super(number, PAID, 1);
            this.buyer = buyer;
            this.price = price;
            this.spot = spot;
        }

        int cost() {
            return spot.w * spot.h * price;
        }

        int columnsBy(int how) {
            return how == 0 ? spot.w : 0;
        }

        int linesBy(int how) {
            return how == 0 ? spot.h : 0;
        }

        boolean maySit(Piece p, int measure, int today) {
            return p.startsWith(spot);
        }
    }

    private static final class Filler extends Item {
        final int least;
        final int most;

        Filler(int number, int least, int most) {
            super(number, FILLER, 1);
            this.least = least;
            this.most = most;
        }

        int linesBy(int how) {
            return isWithin(how, least, most) ? how : 0;
        }
    }

    private static final class Notice extends Item {
        final Item mended;
        final int h;

        Notice(int number, Item mended, int h) {
            super(number, NOTICE, 1);
            this.mended = mended;
            this.h = h;
        }

        int linesBy(int how) {
            return how == 0 ? h : 0;
        }

        /** Closed editions are enough to look at: a printing in the one at hand is today's, and today is no earlier day. */
        boolean maySit(Piece p, int measure, int today) {
            boolean wasMendedBefore = isWithin(first[FIRST_DAY], 0, today - 1);
            if (wasMendedBefore || !isWithin(mended.first[FIRST_DAY], 0, today - 1)) {
                return false;
            }
            if (p.page != mended.first[FIRST_PAGE]) {
                return p.page > mended.first[FIRST_PAGE];
            }
            return p.column >= mended.first[FIRST_COLUMN];
        }
    }
}
