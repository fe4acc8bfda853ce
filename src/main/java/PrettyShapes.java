/**
 * Pretty layouts: a DOC is a text whose CHOICES lead to LAYOUTS of different SHAPES.
 * The words in capitals are those of the document that numbers the promises.
 */
public final class PrettyShapes {
    public static final int NONE = -1, BAD = -2, NOT = -3, FULL = -4;

    private static final int BYTES = 40;
    private static final int MOST_BYTE = 255;
    private static final int CHOICES = 6;
    private static final int WAYS = 64;
    private static final int WIDEST = 99;
    private static final int FIRST_WIDTH = 20;
    private static final int LINES = 99;
    private static final int COLUMNS = 399;
    private static final int SHRINKS = 39;
    // A text of 40 bytes cannot reach so many columns: for this width all LAYOUTS fit.
    private static final int BOUNDLESS = 1000;
    private static final int BLANK = 32;

    private static final int WORD = 0, BESIDE = 1, UNDER = 2, CHOICE = 3, PUSHED = 4, FLAT = 5;

    private static final int SHEETS = 4;
    private static final int FORMS = 3;
    private static final int ITEMS = 60;
    private static final int LOST = -1;
    private static final int NULL = 1, INDEX = 2, CAST = 3, STORE = 4, SIZE = 5;
    private static final int LEAST_INT = 0x80000000;

    private final Doc doc;
    private final Frontiers frontiers;
    private final Shapes bestShape;
    private final Ways ways;
    private final Setting setting;
    private final Sheet[] sheets;

    private int width;
    private int finding;

    private boolean hasBest;
    private boolean over;

    public PrettyShapes() {
        doc = new Doc();
        frontiers = new Frontiers();
        bestShape = new Shapes(1);
        ways = new Ways();
        setting = new Setting();
        sheets = new Sheet[SHEETS];
        for (int s = 0; s < sheets.length; s++) {
            sheets[s] = new Sheet();
        }
        width = FIRST_WIDTH;
    }

    // ---- the text, the width

    public int type(int b) {
        if (!isByte(b)) {
            return BAD;
        }
        if (!doc.append(b)) {
            return FULL;
        }
        readDoc();
        chooseBest();
        return doc.length;
    }

    public int wipe() {
        int had = doc.length;
        doc.length = 0;
        readDoc();
        chooseBest();
        return had;
    }

    public int undo() {
        if (doc.length == 0) {
            return NOT;
        }
        doc.length--;
        readDoc();
        chooseBest();
        return doc.length;
    }

    public int fault() {
        return doc.fault;
    }

    public int width(int v) {
        if (v < 1 || v > WIDEST) {
            return BAD;
        }
        int was = width;
        width = v;
        chooseBest();
        return was;
    }

    public int read(int s) {
        Sheet sheet = sheetOf(s);
        if (sheet == null) {
            return BAD;
        }
        if (sheet.isLost()) {
            return found(NULL);
        }
        int came = 0;
        // Items of any FORM may hold numbers that type() would refuse: the first of them ends it.
        while (came < sheet.size && isByte(sheet.itemAt(came)) && doc.append(sheet.itemAt(came))) {
            came++;
        }
        readDoc();
        chooseBest();
        return came;
    }

    // ---- parts, frontiers

    public int part(int part, int what) {
        if (!doc.hasPart(part) || what < 0 || what > 3) {
            return BAD;
        }
        switch (what) {
            case 0:
                return doc.start[part];
            case 1:
                return doc.size[part];
            case 2:
                return frontiers.sizeOf(part);
            default:
                return doc.above[part];
        }
    }

    public int frontier(int part, int i, int what) {
        if (!doc.hasPart(part) || i < 0 || i >= WAYS || what < 0 || what > 3) {
            return BAD;
        }
        if (i >= frontiers.sizeOf(part)) {
            return NONE;
        }
        return frontiers.shapes.tell(part * WAYS + i, what);
    }

    public int tried(int what) {
        if (what < 0 || what > 1) {
            return BAD;
        }
        return what == 0 ? frontiers.tries : frontiers.letGo;
    }

    // ---- the best

    public int best(int what) {
        if (what < 0 || what > 4) {
            return BAD;
        }
        if (!hasBest) {
            return NONE;
        }
        if (what == 4) {
            return over ? 1 : 0;
        }
        return bestShape.tell(0, what);
    }

    public int line(int line, int column) {
        if (line < 0 || line > LINES || column < NONE || column > COLUMNS) {
            return BAD;
        }
        return column == NONE ? setting.columnsOf(line) : setting.byteAt(line, column);
    }

    // ---- ways

    public int way(int way, int what) {
        if (way < 0 || way >= WAYS || what < 0 || what > 2) {
            return BAD;
        }
        return ways.tell(way, what);
    }

    public int haste(int what) {
        if (what < 0 || what > 2) {
            return BAD;
        }
        int taken = ways.hasty(doc.choices, width);
        if (taken == NONE || what == 0) {
            return taken;
        }
        return ways.tell(taken, what == 1 ? 0 : 2);
    }

    public int enough() {
        return ways.enoughWidth;
    }

    public int shrinks(int i) {
        if (i < NONE || i > SHRINKS) {
            return BAD;
        }
        return i == NONE ? ways.shrinkCount : ways.shrinkAt(i);
    }

    public int spare() {
        if (!hasBest) {
            return 0;
        }
        int lines = bestShape.tell(0, 0);
        int bits = 0;
        for (int c = 0; c < doc.choices; c++) {
            int bit = 1 << c;
            // Without that second, what was OVER stays so; what was not has to find a LAYOUT within WIDTH.
            int left = over ? ways.linesOfLeastMost(bit) : ways.fewestLines(bit, width);
            if (left == lines) {
                bits |= bit;
            }
        }
        return bits;
    }

    // ---- sheets

    public int sheet(int s, int form, int n) {
        Sheet sheet = sheetOf(s);
        if (sheet == null || !isForm(form) || n > ITEMS) {
            return BAD;
        }
        if (n < 0) {
            return found(SIZE);
        }
        sheet.renew(form, n);
        return n;
    }

    public int lose(int s) {
        Sheet sheet = sheetOf(s);
        if (sheet == null) {
            return BAD;
        }
        if (sheet.isLost()) {
            return found(NULL);
        }
        int had = sheet.size;
        sheet.renew(LOST, 0);
        return had;
    }

    public int put(int s, int form, int i, int v) {
        Sheet sheet = sheetOf(s);
        if (sheet == null || !isForm(form)) {
            return BAD;
        }
        int wrong = wrongItem(sheet, form, i);
        if (wrong != 0) {
            return found(wrong);
        }
        sheet.store(i, v);
        return 1;
    }

    public int get(int s, int form, int i) {
        Sheet sheet = sheetOf(s);
        if (sheet == null || !isForm(form)) {
            return LEAST_INT;
        }
        int wrong = wrongItem(sheet, form, i);
        if (wrong != 0) {
            found(wrong);
            return LEAST_INT;
        }
        return sheet.itemAt(i);
    }

    public int copy(int s, int i, int t, int j, int n) {
        Sheet from = sheetOf(s);
        Sheet to = sheetOf(t);
        if (from == null || to == null) {
            return BAD;
        }
        if (from.isLost() || to.isLost()) {
            return found(NULL);
        }
        if (from.form != to.form) {
            return found(STORE);
        }
        if (!from.hasItems(i, n) || !to.hasItems(j, n)) {
            return found(INDEX);
        }
        System.arraycopy(from.items, i, to.items, j, n);
        return 1;
    }

    public int write(int line, int s) {
        Sheet sheet = sheetOf(s);
        if (line < 0 || line > LINES || sheet == null) {
            return BAD;
        }
        if (sheet.isLost()) {
            return found(NULL);
        }
        int many = Math.max(0, Math.min(sheet.size, setting.columnsOf(line)));
        for (int column = 0; column < many; column++) {
            sheet.store(column, setting.byteAt(line, column));
        }
        return many;
    }

    public int count(int what) {
        switch (what) {
            case 0:
                return doc.length;
            case 1:
                return doc.parts;
            case 2:
                return doc.choices;
            case 3:
                return width;
            case 4:
                return frontiers.sizeOf(0);
            case 5:
                return tried(0);
            case 6:
                return tried(1);
            case 7:
                return best(0);
            case 8:
                return finding;
            default:
                return BAD;
        }
    }

    public long digest() {
        long h = 17;
        for (int what = 0; what <= 7; what++) {
            h = 31 * h + count(what);
        }
        h = 31 * h + fault();
        h = digestParts(h);
        h = digestBest(h);
        return digestWays(h);
    }

    private long digestParts(long before) {
        long h = before;
        for (int p = 0; p < doc.parts; p++) {
            for (int what = 0; what <= 3; what++) {
                h = 31 * h + part(p, what);
            }
            h = digestShape(digestShape(h, p, 0), p, 1);
        }
        for (int i = 0; i <= 7; i++) {
            h = digestShape(h, 0, i);
        }
        return h;
    }

    private long digestShape(long before, int p, int i) {
        long h = before;
        for (int what = 0; what <= 3; what++) {
            h = 31 * h + frontier(p, i, what);
        }
        return h;
    }

    private long digestBest(long before) {
        long h = 31 * (31 * before + tried(0)) + tried(1);
        for (int what = 0; what <= 4; what++) {
            h = 31 * h + best(what);
        }
        for (int l = 0; l <= 9; l++) {
            h = 31 * h + line(l, NONE);
            h = 31 * h + line(l, 0);
            h = 31 * h + line(l, 5);
        }
        return h;
    }

    private long digestWays(long before) {
        long h = before;
        for (int w = 0; w < WAYS; w++) {
            for (int what = 0; what <= 2; what++) {
                h = 31 * h + way(w, what);
            }
        }
        for (int what = 0; what <= 2; what++) {
            h = 31 * h + haste(what);
        }
        h = 31 * h + enough();
        h = 31 * h + shrinks(NONE);
        h = 31 * h + shrinks(0);
        h = 31 * h + shrinks(1);
        return 31 * h + spare();
    }

    // All that follows from text and width is worked out when one of them changes:
    // so every question is only looked up, and no call makes anything new.

    private void readDoc() {
        doc.parse();
        ways.make(doc);
    }

    private void chooseBest() {
        frontiers.make(doc, width);
        int at = frontiers.fewestLines();
        over = doc.parts > 0 && at == NONE;
        if (over) {
            frontiers.make(doc, BOUNDLESS);
            at = frontiers.leastMost();
        }
        hasBest = at != NONE;
        setting.clear();
        if (hasBest) {
            keepBest(at);
        }
        if (over) {
            // The questions about FRONTIERS are about those for WIDTH.
            frontiers.make(doc, width);
        }
    }

    private void keepBest(int at) {
        Shapes from = frontiers.shapes;
        bestShape.set(0, from.tell(at, 0), from.tell(at, 1), from.tell(at, 2), from.tell(at, 3));
        ways.shapeParts(doc, bestShape.tell(0, 3));
        setting.place(doc, ways.parts);
    }

    private Sheet sheetOf(int s) {
        return s < 0 || s >= sheets.length ? null : sheets[s];
    }

    private static boolean isByte(int v) {
        return v >= 0 && v <= MOST_BYTE;
    }

    private static boolean isForm(int form) {
        return form >= 0 && form < FORMS;
    }

    private static int wrongItem(Sheet sheet, int form, int i) {
        if (sheet.isLost()) {
            return NULL;
        }
        if (sheet.form != form) {
            return CAST;
        }
        return sheet.hasItems(i, 1) ? 0 : INDEX;
    }

    private int found(int number) {
        finding = number;
        return -10 - number;
    }

    /** The text and, where it has no FAULT, its PARTS in the order of their first bytes. */
    private static final class Doc {
        final int[] bytes = new int[BYTES];
        final int[] kind = new int[BYTES];
        final int[] start = new int[BYTES];
        final int[] size = new int[BYTES];
        final int[] above = new int[BYTES];
        final int[] first = new int[BYTES];
        final int[] second = new int[BYTES];
        // Of a WORD its columns, of PUSHED how far, of a CHOICE which one it is; of others 0.
        final int[] number = new int[BYTES];
        int length;
        int parts;
        int choices;
        int fault = NONE;
        // The innermost PART that still waits for a figure or a DOC.
        private int open = NONE;

        boolean append(int b) {
            if (length < 0 || length >= bytes.length) {
                return false;
            }
            bytes[length] = b;
            length++;
            return true;
        }

        boolean hasPart(int p) {
            return p >= 0 && p < parts && p < BYTES;
        }

        void parse() {
            parts = 0;
            choices = 0;
            fault = NONE;
            open = NONE;
            for (int at = 0; at < length && at < bytes.length && fault == NONE; at++) {
                if (!goesOn(at, bytes[at])) {
                    fault = at;
                }
            }
            if (fault == NONE && open != NONE) {
                fault = length;
            }
            if (fault != NONE) {
                parts = 0;
                choices = 0;
            }
            measure();
        }

        private boolean goesOn(int at, int b) {
            boolean ended = parts > 0 && open == NONE;
            if (ended) {
                return false;
            }
            if (hasPart(open) && kind[open] == PUSHED && number[open] == 0) {
                return takesFigure(b);
            }
            int next = kindOf(b);
            if (next == NONE || parts >= BYTES || next == CHOICE && choices == CHOICES) {
                return false;
            }
            begin(at, next, b);
            return true;
        }

        private boolean takesFigure(int b) {
            if (b < '1' || b > '9') {
                return false;
            }
            number[open] = b - '0';
            return true;
        }

        private static int kindOf(int b) {
            switch (b) {
                case 'H':
                    return BESIDE;
                case 'V':
                    return UNDER;
                case 'C':
                    return CHOICE;
                case 'N':
                    return PUSHED;
                case 'F':
                    return FLAT;
                default:
                    return b >= 'a' && b <= 'i' ? WORD : NONE;
            }
        }

        private void begin(int at, int next, int b) {
            int p = parts;
            parts++;
            kind[p] = next;
            start[p] = at;
            above[p] = open;
            first[p] = NONE;
            second[p] = NONE;
            number[p] = 0;
            if (next == WORD) {
                number[p] = b - 'a' + 1;
            }
            if (next == CHOICE) {
                number[p] = choices;
                choices++;
            }
            hangBelowOpen(p);
            if (next != WORD) {
                open = p;
            } else {
                closeFull();
            }
        }

        private void hangBelowOpen(int p) {
            if (!hasPart(open)) {
                return;
            }
            if (first[open] == NONE) {
                first[open] = p;
            } else {
                second[open] = p;
            }
        }

        private void closeFull() {
            for (int step = 0; step < BYTES && hasPart(open); step++) {
                int last = hasTwo(open) ? second[open] : first[open];
                if (last == NONE) {
                    return;
                }
                open = above[open];
            }
        }

        private boolean hasTwo(int p) {
            return kind[p] == BESIDE || kind[p] == UNDER || kind[p] == CHOICE;
        }

        private void measure() {
            for (int p = parts - 1; p >= 0; p--) {
                int own = kind[p] == PUSHED ? 2 : 1;
                size[p] = own + sizeBelow(first[p]) + sizeBelow(second[p]);
            }
        }

        private int sizeBelow(int p) {
            return hasPart(p) ? size[p] : 0;
        }
    }

    /** Rows of SHAPES, each with the WAY of the LAYOUT that has it. */
    private static final class Shapes {
        final int[] lines;
        final int[] last;
        final int[] most;
        final int[] way;

        Shapes(int room) {
            int safe = Math.max(0, room);
            lines = new int[safe];
            last = new int[safe];
            most = new int[safe];
            way = new int[safe];
        }

        boolean has(int at) {
            return at >= 0 && at < lines.length;
        }

        void set(int at, int newLines, int newLast, int newMost, int newWay) {
            if (at >= 0 && at < lines.length) {
                lines[at] = newLines;
                last[at] = newLast;
                most[at] = newMost;
                way[at] = newWay;
            }
        }

        void setWord(int at, int columns) {
            set(at, 1, columns, columns, 0);
        }

        void setLike(int at, int a, int moreWay) {
            if (has(a)) {
                set(at, lines[a], last[a], most[a], way[a] | moreWay);
            }
        }

        /** BESIDE and UNDER take a and b, PUSHED and FLAT take a alone; for FLAT the columns are 0. */
        void setMade(int at, int kind, int columns, int a, int b) {
            if (!has(a) || !has(b)) {
                return;
            }
            switch (kind) {
                case BESIDE:
                    set(at, lines[a] + lines[b] - 1, last[a] + last[b],
                            Math.max(most[a], last[a] + most[b]), way[a] | way[b]);
                    break;
                case UNDER:
                    set(at, lines[a] + lines[b], last[b], Math.max(most[a], most[b]), way[a] | way[b]);
                    break;
                default:
                    set(at, lines[a], last[a] + columns, most[a] + columns, way[a]);
                    break;
            }
        }

        boolean noneGreater(int a, int b) {
            if (a < 0 || a >= lines.length || b < 0 || b >= lines.length) {
                return false;
            }
            return lines[a] <= lines[b] && last[a] <= last[b] && most[a] <= most[b];
        }

        boolean fewerLines(int a, int b) {
            if (!has(a) || !has(b)) {
                return false;
            }
            if (lines[a] != lines[b]) {
                return lines[a] < lines[b];
            }
            return most[a] != most[b] ? most[a] < most[b] : last[a] < last[b];
        }

        boolean lessMost(int a, int b) {
            if (!has(a) || !has(b)) {
                return false;
            }
            if (most[a] != most[b]) {
                return most[a] < most[b];
            }
            return lines[a] != lines[b] ? lines[a] < lines[b] : last[a] < last[b];
        }

        int tell(int at, int what) {
            if (at < 0 || at >= lines.length) {
                return NONE;
            }
            switch (what) {
                case 0:
                    return lines[at];
                case 1:
                    return last[at];
                case 2:
                    return most[at];
                default:
                    return way[at];
            }
        }
    }

    /** The FRONTIERS of all PARTS for one width, WAYS places for each PART. */
    private static final class Frontiers {
        // Six CHOICES lead to 64 LAYOUTS at most, so a PART never needs more places.
        final Shapes shapes = new Shapes(BYTES * WAYS);
        final int[] size = new int[BYTES];
        int tries;
        int letGo;

        int sizeOf(int p) {
            return p >= 0 && p < size.length ? size[p] : 0;
        }

        void make(Doc doc, int width) {
            tries = 0;
            letGo = 0;
            size[0] = 0;
            // PARTS of a PART have greater numbers, so they are made before it.
            for (int p = Math.min(doc.parts, size.length) - 1; p >= 0; p--) {
                size[p] = 0;
                switch (doc.kind[p]) {
                    case WORD:
                        shapes.setWord(p * WAYS, doc.number[p]);
                        tryLast(p, width);
                        break;
                    case CHOICE:
                        tryEach(p, doc.first[p], 0, width);
                        tryEach(p, doc.second[p], 1 << doc.number[p], width);
                        break;
                    case BESIDE:
                    case UNDER:
                        tryPairs(doc, p, width);
                        break;
                    default:
                        tryAlone(doc, p, width);
                        break;
                }
            }
        }

        private void tryEach(int p, int of, int moreWay, int width) {
            for (int i = 0; i < sizeOf(of); i++) {
                shapes.setLike(trialPlace(p), of * WAYS + i, moreWay);
                tryLast(p, width);
            }
        }

        private void tryPairs(Doc doc, int p, int width) {
            int a = doc.first[p];
            int b = doc.second[p];
            for (int i = 0; i < sizeOf(a); i++) {
                for (int j = 0; j < sizeOf(b); j++) {
                    shapes.setMade(trialPlace(p), doc.kind[p], 0, a * WAYS + i, b * WAYS + j);
                    tryLast(p, width);
                }
            }
        }

        private void tryAlone(Doc doc, int p, int width) {
            int a = doc.first[p];
            for (int i = 0; i < sizeOf(a); i++) {
                int from = a * WAYS + i;
                if (doc.kind[p] == FLAT && shapes.tell(from, 0) != 1) {
                    tries++;
                    letGo++;
                } else {
                    shapes.setMade(trialPlace(p), doc.kind[p], doc.number[p], from, from);
                    tryLast(p, width);
                }
            }
        }

        /** A LAYOUT is tried in the place behind those that are there. */
        private int trialPlace(int p) {
            return p >= 0 && p < size.length && size[p] < WAYS ? p * WAYS + size[p] : NONE;
        }

        private void tryLast(int p, int width) {
            int base = p * WAYS;
            int trial = trialPlace(p);
            if (!shapes.has(trial)) {
                return;
            }
            tries++;
            boolean goes = shapes.most[trial] > width;
            for (int at = base; at < trial && !goes; at++) {
                goes = shapes.noneGreater(at, trial);
            }
            if (goes) {
                letGo++;
                return;
            }
            int kept = base;
            for (int at = base; at < trial; at++) {
                // None there has the same SHAPE, so one without anything greater is BETTER.
                if (shapes.noneGreater(trial, at)) {
                    letGo++;
                } else {
                    shapes.setLike(kept, at, 0);
                    kept++;
                }
            }
            shapes.setLike(kept, trial, 0);
            size[p] = kept + 1 - base;
        }

        int fewestLines() {
            int best = sizeOf(0) == 0 ? NONE : 0;
            for (int at = 1; at < sizeOf(0); at++) {
                if (shapes.fewerLines(at, best)) {
                    best = at;
                }
            }
            return best;
        }

        int leastMost() {
            int best = sizeOf(0) == 0 ? NONE : 0;
            for (int at = 1; at < sizeOf(0); at++) {
                if (shapes.lessMost(at, best)) {
                    best = at;
                }
            }
            return best;
        }
    }

    /** All LAYOUTS of the whole DOC by their CHOICES; LINES 0 stands for one that FLAT does not allow. */
    private static final class Ways {
        final Shapes parts = new Shapes(BYTES);
        final Shapes whole = new Shapes(WAYS);
        private final int[] linesFor = new int[WIDEST + 1];
        private final int[] shrink = new int[SHRINKS + 1];
        int shrinkCount;
        int enoughWidth = NONE;
        private int many;

        void make(Doc doc) {
            many = doc.parts == 0 ? 0 : 1 << doc.choices;
            for (int w = 0; w < many; w++) {
                shapeParts(doc, w);
                whole.set(w, parts.lines[0], parts.last[0], parts.most[0], parts.way[0]);
            }
            findLines();
            findShrinks();
        }

        void shapeParts(Doc doc, int chosen) {
            for (int p = doc.parts - 1; p >= 0; p--) {
                shapeOne(doc, p, chosen);
            }
        }

        private void shapeOne(Doc doc, int p, int chosen) {
            if (!doc.hasPart(p)) {
                return;
            }
            int kind = doc.kind[p];
            int a = doc.first[p];
            int b = kind == BESIDE || kind == UNDER ? doc.second[p] : a;
            if (kind == WORD) {
                parts.setWord(p, doc.number[p]);
            } else if (kind == CHOICE) {
                int bit = chosen & (1 << doc.number[p]);
                parts.setLike(p, bit == 0 ? a : doc.second[p], bit);
            } else if (!stands(a) || !stands(b) || kind == FLAT && parts.tell(a, 0) != 1) {
                parts.set(p, 0, 0, 0, 0);
            } else {
                parts.setMade(p, kind, doc.number[p], a, b);
            }
        }

        private boolean stands(int p) {
            return parts.tell(p, 0) > 0;
        }

        private void findLines() {
            for (int v = 0; v <= WIDEST; v++) {
                linesFor[v] = NONE;
            }
            for (int w = 0; w < many; w++) {
                int v = whole.tell(w, 2);
                boolean counts = whole.tell(w, 0) > 0 && v >= 0 && v <= WIDEST;
                if (counts && (linesFor[v] == NONE || whole.tell(w, 0) < linesFor[v])) {
                    linesFor[v] = whole.tell(w, 0);
                }
            }
            for (int v = 1; v <= WIDEST; v++) {
                int less = linesFor[v - 1];
                if (less != NONE && (linesFor[v] == NONE || less < linesFor[v])) {
                    linesFor[v] = less;
                }
            }
        }

        private void findShrinks() {
            shrinkCount = 0;
            enoughWidth = NONE;
            for (int v = 1; v <= WIDEST; v++) {
                if (enoughWidth == NONE && linesFor[v] != NONE) {
                    enoughWidth = v;
                }
                // Where one less is OVER, its NONE is below any LINES.
                if (linesFor[v] < linesFor[v - 1] && shrinkCount < shrink.length) {
                    shrink[shrinkCount] = v;
                    shrinkCount++;
                }
            }
        }

        int shrinkAt(int i) {
            return i >= 0 && i < shrinkCount && i < shrink.length ? shrink[i] : NONE;
        }

        int tell(int chosen, int what) {
            if (many == 0) {
                return NONE;
            }
            int w = chosen & (many - 1);
            return whole.tell(w, 0) > 0 ? whole.tell(w, what) : NONE;
        }

        int hasty(int choices, int width) {
            if (!isAny(0, 0, width)) {
                return NONE;
            }
            int taken = 0;
            for (int c = 0; c < choices && c < CHOICES; c++) {
                int ahead = (2 << c) - 1;
                if (!isAny(ahead, taken, width)) {
                    taken |= 1 << c;
                }
            }
            return taken;
        }

        private boolean isAny(int mask, int taken, int width) {
            for (int w = 0; w < many; w++) {
                if (fits(w, width) && (whole.tell(w, 3) & mask) == taken) {
                    return true;
                }
            }
            return false;
        }

        private boolean fits(int w, int width) {
            return whole.tell(w, 0) > 0 && whole.tell(w, 2) <= width;
        }

        /** Of LAYOUTS without the seconds that mask tells. */
        int fewestLines(int mask, int width) {
            int best = NONE;
            for (int w = 0; w < many; w++) {
                boolean counts = fits(w, width) && (whole.tell(w, 3) & mask) == 0;
                if (counts && (best == NONE || whole.fewerLines(w, best))) {
                    best = w;
                }
            }
            return whole.tell(best, 0);
        }

        /** Of LAYOUTS without the seconds that mask tells. */
        int linesOfLeastMost(int mask) {
            int best = NONE;
            for (int w = 0; w < many; w++) {
                boolean counts = fits(w, BOUNDLESS) && (whole.tell(w, 3) & mask) == 0;
                if (counts && (best == NONE || whole.lessMost(w, best))) {
                    best = w;
                }
            }
            return whole.tell(best, 0);
        }
    }

    /** SET: where each PART of the LAYOUT begins; only its WORDS are looked at later. */
    private static final class Setting {
        private final boolean[] isIn = new boolean[BYTES];
        private final int[] line = new int[BYTES];
        private final int[] column = new int[BYTES];
        private final int[] columns = new int[BYTES];
        private final int[] letter = new int[BYTES];
        private int parts;

        void clear() {
            parts = 0;
        }

        /** The SHAPES are those that the PARTS have in the LAYOUT; the first one's WAY tells its CHOICES. */
        void place(Doc doc, Shapes shapes) {
            parts = doc.parts;
            for (int p = 0; p < isIn.length; p++) {
                isIn[p] = false;
            }
            putAt(0, 0, 0);
            int chosen = shapes.tell(0, 3);
            // A PART stands ahead of those in it, so its place is known before theirs.
            for (int p = 0; p < doc.parts; p++) {
                if (doc.hasPart(p) && isIn[p]) {
                    placeBelow(doc, shapes, p, chosen);
                }
            }
        }

        private void putAt(int p, int atLine, int atColumn) {
            if (p >= 0 && p < isIn.length) {
                isIn[p] = true;
                line[p] = atLine;
                column[p] = atColumn;
                columns[p] = 0;
            }
        }

        private void placeBelow(Doc doc, Shapes shapes, int p, int chosen) {
            int a = doc.first[p];
            int b = doc.second[p];
            switch (doc.kind[p]) {
                case WORD:
                    columns[p] = doc.number[p];
                    letter[p] = doc.number[p] + 'a' - 1;
                    break;
                case BESIDE:
                    putAt(a, line[p], column[p]);
                    putAt(b, line[p] + shapes.tell(a, 0) - 1, column[p] + shapes.tell(a, 1));
                    break;
                case UNDER:
                    putAt(a, line[p], column[p]);
                    putAt(b, line[p] + shapes.tell(a, 0), column[p]);
                    break;
                case CHOICE:
                    putAt((chosen & (1 << doc.number[p])) == 0 ? a : b, line[p], column[p]);
                    break;
                case PUSHED:
                    putAt(a, line[p], column[p] + doc.number[p]);
                    break;
                default:
                    putAt(a, line[p], column[p]);
                    break;
            }
        }

        private boolean isWordOn(int p, int atLine) {
            return isIn[p] && columns[p] > 0 && line[p] == atLine;
        }

        int columnsOf(int atLine) {
            int end = NONE;
            for (int p = 0; p < parts && p < isIn.length; p++) {
                if (isWordOn(p, atLine)) {
                    end = Math.max(end, column[p] + columns[p]);
                }
            }
            return end;
        }

        int byteAt(int atLine, int atColumn) {
            for (int p = 0; p < parts && p < isIn.length; p++) {
                boolean covers = atColumn >= column[p] && atColumn < column[p] + columns[p];
                if (covers && isWordOn(p, atLine)) {
                    return letter[p];
                }
            }
            return atColumn < columnsOf(atLine) ? BLANK : NONE;
        }
    }

    /** A SHEET; its items are kept as ints that its FORM can hold. */
    private static final class Sheet {
        final int[] items = new int[ITEMS];
        int form = LOST;
        int size;

        boolean isLost() {
            return form == LOST;
        }

        void renew(int newForm, int newSize) {
            form = newForm;
            size = newSize;
            for (int i = 0; i < items.length; i++) {
                items[i] = 0;
            }
        }

        boolean hasItems(int from, int many) {
            return from >= 0 && many >= 0 && from <= size && many <= size - from;
        }

        int itemAt(int i) {
            return i >= 0 && i < size && i < items.length ? items[i] : 0;
        }

        void store(int i, int v) {
            if (i < 0 || i >= size || i >= items.length) {
                return;
            }
            if (form == 0) {
                items[i] = (byte) v;
            } else if (form == 1) {
                items[i] = (short) v;
            } else {
                items[i] = v;
            }
        }
    }
}
