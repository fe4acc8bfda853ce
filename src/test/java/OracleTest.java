import java.util.ArrayList;
import java.util.List;
import java.util.Random;

/** Every small text and DOC, and runs of calls drawn from a fixed seed: every answer is compared with the Oracle's. */
public final class OracleTest {
    private static final int RUNS = 400;
    private static final int CALLS = 512;
    private static final int SMALL_TEXT = 4;
    private static final int SMALL_DOC = 5;
    private static final int SMALL_WIDTH = 5;
    private static int wrong = 0;
    private static int passed = 0;

    private final Random dice;
    private final PrettyShapes x = new PrettyShapes();
    private final Oracle o = new Oracle();
    private final StringBuilder told = new StringBuilder();
    private int calls = 0;

    private OracleTest(long seed) { dice = new Random(seed); }

    public static void main(String[] args) {
        smallTexts("", SMALL_TEXT);
        smallDocs();
        int runs = Integer.getInteger("runs", RUNS);
        for (int run = 0; run < runs && wrong < 5; run++) {
            OracleTest t = new OracleTest(1000 + run);
            counts(run % 4 == 3 ? t.sheetRun() : t.docRun());
        }
        System.out.println("OracleTest: " + passed + " passed, " + wrong + " failed");
        if (wrong != 0) System.exit(1);
    }

    private static OracleTest on(String text) {
        OracleTest t = new OracleTest(0);
        for (int i = 0; i < text.length(); i++) {
            t.x.type(text.charAt(i));
            t.o.type(text.charAt(i));
        }
        t.told.append("the text '").append(text).append("'\n");
        return t;
    }

    private static void counts(boolean good) {
        if (good) passed++; else wrong++;
    }

    /** FAULTS and PARTS of every text that begins so, with signs of each kind. */
    private static void smallTexts(String begin, int more) {
        OracleTest t = on(begin);
        counts(t.same("fault()", t.x.fault(), t.o.fault()) && t.same("count(1)", t.x.count(1), t.o.count(1)));
        for (char c : "abHVCNF19z".toCharArray()) if (more > 0 && wrong < 5) smallTexts(begin + c, more - 1);
    }

    private static void smallDocs() {
        List<List<String>> docs = new ArrayList<>();
        docs.add(new ArrayList<>());
        for (int bytes = 1; bytes <= SMALL_DOC; bytes++) {
            List<String> all = new ArrayList<>();
            if (bytes == 1) all.addAll(List.of("a", "b", "c"));
            for (String a : docs.get(bytes - 1)) all.add("F" + a);
            if (bytes > 2) for (String a : docs.get(bytes - 2)) all.add("N1" + a);
            for (int first = 1; first <= bytes - 2; first++)
                for (String a : docs.get(first)) for (String b : docs.get(bytes - 1 - first)) all.addAll(List.of("H" + a + b, "V" + a + b, "C" + a + b));
            docs.add(all);
            for (String doc : all) if (wrong < 5) smallDoc(doc);
        }
    }

    private static void smallDoc(String doc) {
        OracleTest t = on(doc);
        boolean good = true;
        for (int v = 1; v <= SMALL_WIDTH && good; v++) {
            good = t.same("width(" + v + ")", t.x.width(v), t.o.width(v)) && t.same("digest()", t.x.digest(), t.o.digest());
        }
        counts(good);
    }

    private boolean same(String call, long got, long want) {
        calls++;
        told.append(call).append(" = ").append(want).append('\n');
        if (got == want) return true;
        System.out.println("after\n" + told + "the answer was " + got);
        return false;
    }

    private int upTo(int least, int most) { return least + dice.nextInt(most - least + 1); }

    /** Mostly within the bounds, at times just outside, at times far off. */
    private int near(int least, int most) {
        int d = dice.nextInt(40);
        if (d == 0) return least - 1;
        if (d == 1) return most + 1;
        if (d == 2) return Integer.MIN_VALUE;
        if (d == 3) return Integer.MAX_VALUE;
        return upTo(least, most);
    }

    private String doc(int bytes, int[] choices) {
        int d = dice.nextInt(100);
        if (bytes >= 3 && d < 75) {
            int first = upTo(1, bytes - 2);
            String two = "HVC";
            char c = two.charAt(dice.nextInt(3));
            if (c == 'C' && choices[0] == 0) c = 'V';
            if (c == 'C') choices[0]--;
            String a = doc(first, choices);
            // One thing laid out in two ways makes FRONTIERS of more than one.
            if (c == 'C' && dice.nextBoolean() && a.charAt(0) == 'H' && a.indexOf('C') < 0 && 2 * a.length() < bytes) {
                return dice.nextBoolean() ? "C" + a + a.replace('H', 'V') : "C" + a.replace('H', 'V') + a;
            }
            return c + a + doc(bytes - 1 - a.length(), choices);
        }
        if (bytes >= 3 && d < 90) return "N" + upTo(1, 9) + doc(bytes - 2, choices);
        if (bytes >= 2 && d < 92) return "F" + doc(bytes - 1, choices);
        return String.valueOf((char) upTo('a', 'i'));
    }

    private boolean type(String text) {
        for (int i = 0; i < text.length(); i++) {
            int b = text.charAt(i);
            if (!same("type(" + b + ")", x.type(b), o.type(b))) return false;
        }
        return true;
    }

    private boolean docRun() {
        while (calls < CALLS - 170) {
            if (!same("wipe()", x.wipe(), o.wipe())) return false;
            String text = doc(dice.nextInt(6) == 0 ? 40 : upTo(1, 40), new int[] {dice.nextInt(10) == 0 ? 7 : upTo(2, 6)});
            if (!type(text)) return false;
            int v = dice.nextBoolean() ? upTo(1, 99) : upTo(5, 30);
            if (!same("width(" + v + ")", x.width(v), o.width(v))) return false;
            for (int i = 0; i < 60; i++) if (!ask()) return false;
            if (!same("digest()", x.digest(), o.digest())) return false;
        }
        while (calls < CALLS) if (!(dice.nextInt(5) == 0 ? change() : ask())) return false;
        return true;
    }

    private boolean sheetRun() {
        if (!type(doc(upTo(1, 40), new int[] {6}))) return false;
        while (calls < CALLS) {
            boolean good = dice.nextInt(8) == 0 ? ask() : dice.nextInt(12) == 0 ? change() : sheets();
            if (!good) return false;
        }
        return true;
    }

    private boolean change() {
        switch (dice.nextInt(4)) {
            case 0: {
                int b = dice.nextInt(4) == 0 ? near(0, 255) : "HVCNF123abcdi".charAt(dice.nextInt(13));
                return same("type(" + b + ")", x.type(b), o.type(b));
            }
            case 1: return same("undo()", x.undo(), o.undo());
            case 2: {
                int v = near(1, 99);
                return same("width(" + v + ")", x.width(v), o.width(v));
            }
            default: return dice.nextInt(10) != 0 || same("wipe()", x.wipe(), o.wipe());
        }
    }

    private boolean ask() {
        int what = near(0, 4), part = near(0, 20), i = dice.nextInt(4) == 0 ? near(0, 63) : near(0, 6);
        switch (dice.nextInt(12)) {
            case 0: return same("fault()", x.fault(), o.fault());
            case 1: return same("part(" + part + "," + what + ")", x.part(part, what), o.part(part, what));
            case 2: return same("frontier(" + part + "," + i + "," + what + ")", x.frontier(part, i, what), o.frontier(part, i, what));
            case 3: return same("tried(" + what + ")", x.tried(what), o.tried(what));
            case 4: return same("best(" + what + ")", x.best(what), o.best(what));
            case 5: {
                int l = dice.nextInt(5) == 0 ? near(0, 99) : upTo(0, 8), c = dice.nextInt(5) == 0 ? near(-1, 399) : upTo(-1, 40);
                return same("line(" + l + "," + c + ")", x.line(l, c), o.line(l, c));
            }
            case 6: {
                int w = near(0, 63);
                return same("way(" + w + "," + what + ")", x.way(w, what), o.way(w, what));
            }
            case 7: return same("haste(" + what + ")", x.haste(what), o.haste(what));
            case 8: return same("enough()", x.enough(), o.enough());
            case 9: {
                int n = dice.nextInt(4) == 0 ? near(-1, 39) : upTo(-1, 4);
                return same("shrinks(" + n + ")", x.shrinks(n), o.shrinks(n));
            }
            case 10: return same("spare()", x.spare(), o.spare());
            default: {
                int n = near(0, 8);
                return same("count(" + n + ")", x.count(n), o.count(n));
            }
        }
    }

    private boolean sheets() {
        int s = near(0, 3), t = near(0, 3), form = near(0, 2), i = dice.nextInt(3) == 0 ? near(-1, 60) : upTo(0, 12);
        int odd = dice.nextInt(24);
        int v = odd < 2 ? dice.nextInt() : odd < 5 ? near(0, 255) : "HVCNF123abcdi".charAt(dice.nextInt(13));
        switch (dice.nextInt(9)) {
            case 0: {
                int n = dice.nextInt(3) == 0 ? near(0, 60) : near(0, 20);
                return same("sheet(" + s + "," + form + "," + n + ")", x.sheet(s, form, n), o.sheet(s, form, n));
            }
            case 1: return dice.nextInt(3) != 0 || same("lose(" + s + ")", x.lose(s), o.lose(s));
            case 2: case 3: return same("put(" + s + "," + form + "," + i + "," + v + ")", x.put(s, form, i, v), o.put(s, form, i, v));
            case 4: case 5: return same("get(" + s + "," + form + "," + i + ")", x.get(s, form, i), o.get(s, form, i));
            case 6: {
                int j = dice.nextInt(3) == 0 ? near(-1, 60) : upTo(0, 12), n = dice.nextInt(3) == 0 ? near(-1, 60) : upTo(0, 8);
                return same("copy(" + s + "," + i + "," + t + "," + j + "," + n + ")", x.copy(s, i, t, j, n), o.copy(s, i, t, j, n));
            }
            case 7: {
                int l = dice.nextInt(5) == 0 ? near(0, 99) : upTo(0, 5);
                return same("write(" + l + "," + s + ")", x.write(l, s), o.write(l, s));
            }
            default: {
                if (dice.nextInt(4) == 0) return same("read(" + s + ")", x.read(s), o.read(s));
                return same("count(8)", x.count(8), o.count(8));
            }
        }
    }
}
