import java.util.ArrayList;
import java.util.Arrays;
import java.util.List;

/**
 * The document once more, written another way: every LAYOUT is set as real lines, every answer is
 * worked out anew from the words of the document, and the SHEETS are real rows of Java.
 */
final class Oracle {
    static final int NONE = -1, BAD = -2, NOT = -3, FULL = -4;
    private static final int ALL = 1_000_000;

    private String text = "";
    private int width = 20;
    private final Object[] sheets = new Object[4];
    private int finding = 0;

    // What one text was last read as.
    private String readText;
    private int fault;
    private Node root;
    private final List<Node> nodes = new ArrayList<>();
    private int choices;

    private static final class Node {
        char kind;
        int begin, end, number;
        Node above;
        final List<Node> below = new ArrayList<>();
    }

    /** A LAYOUT as it is set. */
    private static final class Set {
        final List<String> lines;
        final int way;
        Set(List<String> lines, int way) { this.lines = lines; this.way = way; }
        int count() { return lines.size(); }
        int last() { return lines.get(lines.size() - 1).length(); }
        int most() { return lines.stream().mapToInt(String::length).max().getAsInt(); }
        int tell(int what) { return what == 0 ? count() : what == 1 ? last() : what == 2 ? most() : way; }
    }

    private static final class Frontier {
        final List<List<Set>> of = new ArrayList<>();
        int tried, letGo;
    }

    // ---- reading

    @SuppressWarnings("serial")
    private static final class Stop extends RuntimeException {
        final int at;
        Stop(int at) { super(null, null, false, false); this.at = at; }
    }

    private void know() {
        if (text.equals(readText)) return;
        readText = text;
        nodes.clear();
        root = null;
        choices = 0;
        fault = NONE;
        if (text.isEmpty()) return;
        try {
            Node n = node(0, null);
            if (n.end < text.length()) throw new Stop(n.end);
            root = n;
        } catch (Stop s) {
            fault = s.at;
            nodes.clear();
            choices = 0;
        }
    }

    private Node node(int at, Node above) {
        if (at >= text.length()) throw new Stop(text.length());
        Node n = new Node();
        n.kind = text.charAt(at);
        n.begin = at;
        n.above = above;
        n.end = at + 1;
        nodes.add(n);
        int docs;
        if ("HVC".indexOf(n.kind) >= 0) docs = 2;
        else if ("NF".indexOf(n.kind) >= 0) docs = 1;
        else if ("abcdefghi".indexOf(n.kind) >= 0) docs = 0;
        else throw new Stop(at);
        if (n.kind == 'C') {
            if (choices == 6) throw new Stop(at);
            n.number = choices++;
        }
        if (n.kind == 'N') {
            if (n.end >= text.length()) throw new Stop(text.length());
            n.number = "123456789".indexOf(text.charAt(n.end)) + 1;
            if (n.number == 0) throw new Stop(n.end);
            n.end++;
        }
        for (int d = 0; d < docs; d++) {
            Node k = node(n.end, n);
            n.below.add(k);
            n.end = k.end;
        }
        return n;
    }

    // ---- layouts

    private static String blanks(int n) { return " ".repeat(n); }

    private static Set beside(Set a, Set b) {
        List<String> lines = new ArrayList<>(a.lines);
        int last = lines.size() - 1;
        String hang = blanks(lines.get(last).length());
        lines.set(last, lines.get(last) + b.lines.get(0));
        for (String l : b.lines.subList(1, b.lines.size())) lines.add(hang + l);
        return new Set(lines, a.way | b.way);
    }

    private static Set under(Set a, Set b) {
        List<String> lines = new ArrayList<>(a.lines);
        lines.addAll(b.lines);
        return new Set(lines, a.way | b.way);
    }

    private static Set pushed(Set a, int n) {
        List<String> lines = new ArrayList<>();
        for (String l : a.lines) lines.add(blanks(n) + l);
        return new Set(lines, a.way);
    }

    private static Set word(char letter) {
        return new Set(List.of(String.valueOf(letter).repeat(letter - 'a' + 1)), 0);
    }

    /** The LAYOUT with CHOICES told; null: FLAT does not allow it. */
    private Set layout(Node n, int chosen) {
        switch (n.kind) {
            case 'C': {
                int bit = chosen & (1 << n.number);
                Set s = layout(n.below.get(bit == 0 ? 0 : 1), chosen);
                return s == null ? null : new Set(s.lines, s.way | bit);
            }
            case 'H': case 'V': {
                Set a = layout(n.below.get(0), chosen), b = layout(n.below.get(1), chosen);
                return a == null || b == null ? null : n.kind == 'H' ? beside(a, b) : under(a, b);
            }
            case 'N': {
                Set a = layout(n.below.get(0), chosen);
                return a == null ? null : pushed(a, n.number);
            }
            case 'F': {
                Set a = layout(n.below.get(0), chosen);
                return a == null || a.count() != 1 ? null : a;
            }
            default:
                return word(n.kind);
        }
    }

    private static boolean better(Set a, Set b) {
        boolean greater = a.count() > b.count() || a.last() > b.last() || a.most() > b.most();
        boolean less = a.count() < b.count() || a.last() < b.last() || a.most() < b.most();
        return !greater && less;
    }

    private static boolean alike(Set a, Set b) {
        return a.count() == b.count() && a.last() == b.last() && a.most() == b.most();
    }

    private static void offer(Frontier f, List<Set> there, Set s, int width, boolean flat) {
        f.tried++;
        boolean go = s.most() > width || flat && s.count() != 1;
        for (Set t : there) go = go || better(t, s) || alike(t, s);
        if (go) {
            f.letGo++;
            return;
        }
        int before = there.size();
        there.removeIf(t -> better(s, t));
        f.letGo += before - there.size();
        there.add(s);
    }

    /** barred: CHOICES of which the first is always taken. */
    private Frontier frontiers(int width, int barred) {
        Frontier f = new Frontier();
        for (int i = 0; i < nodes.size(); i++) f.of.add(new ArrayList<>());
        for (int i = nodes.size() - 1; i >= 0; i--) {
            Node n = nodes.get(i);
            List<Set> there = f.of.get(i);
            List<Set> a = n.below.isEmpty() ? null : f.of.get(nodes.indexOf(n.below.get(0)));
            List<Set> b = n.below.size() < 2 ? null : f.of.get(nodes.indexOf(n.below.get(1)));
            switch (n.kind) {
                case 'H': case 'V':
                    for (Set x : a) for (Set y : b) offer(f, there, n.kind == 'H' ? beside(x, y) : under(x, y), width, false);
                    break;
                case 'C':
                    for (Set x : a) offer(f, there, x, width, false);
                    if ((barred >> n.number & 1) == 0)
                        for (Set y : b) offer(f, there, new Set(y.lines, y.way | 1 << n.number), width, false);
                    break;
                case 'N':
                    for (Set x : a) offer(f, there, pushed(x, n.number), width, false);
                    break;
                case 'F':
                    for (Set x : a) offer(f, there, x, width, true);
                    break;
                default:
                    offer(f, there, word(n.kind), width, false);
            }
        }
        return f;
    }

    private boolean isOver(int width, int barred) {
        return root == null || frontiers(width, barred).of.get(0).isEmpty();
    }

    private Set best(int width, int barred) {
        if (root == null) return null;
        boolean over = isOver(width, barred);
        Set best = null;
        for (Set s : frontiers(over ? ALL : width, barred).of.get(0)) {
            int[] key = over ? new int[] {s.most(), s.count(), s.last()} : new int[] {s.count(), s.most(), s.last()};
            int[] had = best == null ? null
                : over ? new int[] {best.most(), best.count(), best.last()} : new int[] {best.count(), best.most(), best.last()};
            if (had == null || Arrays.compare(key, had) < 0) best = s;
        }
        return best;
    }

    // ---- the face

    int type(int b) {
        if (b < 0 || b > 255) return BAD;
        if (text.length() == 40) return FULL;
        text += (char) b;
        return text.length();
    }

    int wipe() { int had = text.length(); text = ""; return had; }

    int undo() {
        if (text.isEmpty()) return NOT;
        text = text.substring(0, text.length() - 1);
        return text.length();
    }

    int fault() { know(); return fault; }

    int width(int v) {
        if (v < 1 || v > 99) return BAD;
        int was = width;
        width = v;
        return was;
    }

    private int found(int number) { finding = number; return -10 - number; }

    private static boolean no(int v, int least, int most) { return v < least || v > most; }

    private static int size(Object row) { return java.lang.reflect.Array.getLength(row); }

    private static int form(Object row) { return row instanceof byte[] ? 0 : row instanceof short[] ? 1 : 2; }

    private static int item(Object row, int i) { return ((Number) java.lang.reflect.Array.get(row, i)).intValue(); }

    private static void put(Object row, int i, int v) {
        if (row instanceof byte[]) ((byte[]) row)[i] = (byte) v;
        else if (row instanceof short[]) ((short[]) row)[i] = (short) v;
        else ((int[]) row)[i] = v;
    }

    int read(int s) {
        if (no(s, 0, 3)) return BAD;
        if (sheets[s] == null) return found(1);
        for (int i = 0; i < size(sheets[s]); i++) if (type(item(sheets[s], i)) < 0) return i;
        return size(sheets[s]);
    }

    int part(int part, int what) {
        know();
        if (no(part, 0, nodes.size() - 1) || no(what, 0, 3)) return BAD;
        Node n = nodes.get(part);
        if (what == 0) return n.begin;
        if (what == 1) return n.end - n.begin;
        if (what == 2) return frontiers(width, 0).of.get(part).size();
        return n.above == null ? NONE : nodes.indexOf(n.above);
    }

    int frontier(int part, int i, int what) {
        know();
        if (no(part, 0, nodes.size() - 1) || no(i, 0, 63) || no(what, 0, 3)) return BAD;
        List<Set> there = frontiers(width, 0).of.get(part);
        return i >= there.size() ? NONE : there.get(i).tell(what);
    }

    int tried(int what) {
        know();
        if (no(what, 0, 1)) return BAD;
        Frontier f = frontiers(width, 0);
        return what == 0 ? f.tried : f.letGo;
    }

    int best(int what) {
        know();
        if (no(what, 0, 4)) return BAD;
        Set b = best(width, 0);
        if (b == null) return NONE;
        return what == 4 ? (isOver(width, 0) ? 1 : 0) : b.tell(what);
    }

    private String lineOfBest(int line) {
        know();
        Set b = best(width, 0);
        return b == null || line >= b.count() ? null : b.lines.get(line);
    }

    int line(int line, int column) {
        if (no(line, 0, 99) || no(column, -1, 399)) return BAD;
        String l = lineOfBest(line);
        if (l == null) return NONE;
        if (column == NONE) return l.length();
        return column < l.length() ? l.charAt(column) : NONE;
    }

    int way(int way, int what) {
        know();
        if (no(way, 0, 63) || no(what, 0, 2)) return BAD;
        Set s = root == null ? null : layout(root, way);
        return s == null ? NONE : s.tell(what);
    }

    int haste(int what) {
        know();
        if (no(what, 0, 2)) return BAD;
        List<Set> left = new ArrayList<>();
        for (int w = 0; w < 64 && root != null; w++) {
            Set s = layout(root, w);
            if (s != null && s.most() <= width) left.add(s);
        }
        if (left.isEmpty()) return NONE;
        for (int c = 0; c < choices; c++) {
            int bit = 1 << c;
            if (left.stream().anyMatch(s -> (s.way & bit) == 0)) left.removeIf(s -> (s.way & bit) != 0);
        }
        Set s = left.get(0);
        return what == 0 ? s.way : what == 1 ? s.count() : s.most();
    }

    int enough() {
        know();
        for (int v = 1; v <= 99; v++) if (!isOver(v, 0)) return v;
        return NONE;
    }

    int shrinks(int i) {
        know();
        if (no(i, -1, 39)) return BAD;
        List<Integer> at = new ArrayList<>();
        for (int v = 2; v <= 99; v++) {
            if (isOver(v, 0) || isOver(v - 1, 0)) continue;
            if (best(v, 0).count() < best(v - 1, 0).count()) at.add(v);
        }
        return i == NONE ? at.size() : i < at.size() ? at.get(i) : NONE;
    }

    int spare() {
        know();
        Set b = best(width, 0);
        int bits = 0;
        for (int c = 0; b != null && c < choices; c++) {
            Set left = best(width, 1 << c);
            if (left != null && left.count() == b.count() && isOver(width, 1 << c) == isOver(width, 0)) bits |= 1 << c;
        }
        return bits;
    }

    int sheet(int s, int form, int n) {
        if (no(s, 0, 3) || no(form, 0, 2) || n > 60) return BAD;
        if (n < 0) return found(5);
        sheets[s] = form == 0 ? new byte[n] : form == 1 ? new short[n] : new int[n];
        return n;
    }

    int lose(int s) {
        if (no(s, 0, 3)) return BAD;
        if (sheets[s] == null) return found(1);
        int had = size(sheets[s]);
        sheets[s] = null;
        return had;
    }

    int put(int s, int form, int i, int v) {
        if (no(s, 0, 3) || no(form, 0, 2)) return BAD;
        if (sheets[s] == null) return found(1);
        if (form(sheets[s]) != form) return found(3);
        if (no(i, 0, size(sheets[s]) - 1)) return found(2);
        put(sheets[s], i, v);
        return 1;
    }

    int get(int s, int form, int i) {
        if (no(s, 0, 3) || no(form, 0, 2)) return Integer.MIN_VALUE;
        int wrong = sheets[s] == null ? 1 : form(sheets[s]) != form ? 3 : no(i, 0, size(sheets[s]) - 1) ? 2 : 0;
        if (wrong != 0) {
            finding = wrong;
            return Integer.MIN_VALUE;
        }
        return item(sheets[s], i);
    }

    int copy(int s, int i, int t, int j, int n) {
        if (no(s, 0, 3) || no(t, 0, 3)) return BAD;
        try {
            System.arraycopy(sheets[s], i, sheets[t], j, n);
        } catch (NullPointerException e) {
            return found(1);
        } catch (ArrayStoreException e) {
            return found(4);
        } catch (IndexOutOfBoundsException e) {
            return found(2);
        }
        return 1;
    }

    int write(int line, int s) {
        if (no(line, 0, 99) || no(s, 0, 3)) return BAD;
        if (sheets[s] == null) return found(1);
        String l = lineOfBest(line);
        int n = l == null ? 0 : Math.min(l.length(), size(sheets[s]));
        for (int c = 0; c < n; c++) put(sheets[s], c, l.charAt(c));
        return n;
    }

    int count(int what) {
        know();
        switch (what) {
            case 0: return text.length();
            case 1: return nodes.size();
            case 2: return choices;
            case 3: return width;
            case 4: return root == null ? 0 : frontiers(width, 0).of.get(0).size();
            case 5: return tried(0);
            case 6: return tried(1);
            case 7: return best(0);
            case 8: return finding;
            default: return BAD;
        }
    }

    long digest() {
        know();
        List<Integer> all = new ArrayList<>();
        for (int w = 0; w <= 7; w++) all.add(count(w));
        all.add(fault());
        for (int p = 0; p < nodes.size(); p++) {
            for (int w = 0; w <= 3; w++) all.add(part(p, w));
            for (int w = 0; w <= 3; w++) all.add(frontier(p, 0, w));
            for (int w = 0; w <= 3; w++) all.add(frontier(p, 1, w));
        }
        for (int i = 0; i <= 7; i++) for (int w = 0; w <= 3; w++) all.add(frontier(0, i, w));
        all.addAll(List.of(tried(0), tried(1), best(0), best(1), best(2), best(3), best(4)));
        for (int l = 0; l <= 9; l++) all.addAll(List.of(line(l, NONE), line(l, 0), line(l, 5)));
        for (int w = 0; w <= 63; w++) all.addAll(List.of(way(w, 0), way(w, 1), way(w, 2)));
        all.addAll(List.of(haste(0), haste(1), haste(2), enough(), shrinks(NONE), shrinks(0), shrinks(1), spare()));
        long h = 17;
        for (int v : all) h = 31 * h + v;
        return h;
    }
}
