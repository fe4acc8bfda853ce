import java.math.BigInteger;
import java.util.ArrayList;
import java.util.List;

/**
 * Each sentence of the document that names a boundary case of the text, its FAULT, WIDTH, PARTS, FRONTIERS, BEST, SET and
 * the ways: a test of its own, under the promise by which it can be seen, just inside and just outside. Refused calls are
 * in RefusalsTest, SHEETS in SheetBoundsTest.
 */
public final class BoundsTest extends Check {
    // Six CHOICES beside one another: MOST is 6 and one more for each that takes the wider one.
    private static final String NARROW_FIRST = "HCabHCabHCabHCabHCabCab";
    private static final String WIDE_FIRST = "HCbaHCbaHCbaHCbaHCbaCba";
    // Six times 7 columns beside one another, each perhaps with a line of 1 column under it.
    private static final String STAIRS = "HCgVgaHCgVgaHCgVgaHCgVgaHCgVgaCgVga";
    private static final String COLUMNS_99 = "N9".repeat(10) + "i";
    private static final String COLUMNS_100 = "N1" + COLUMNS_99;
    private static final String COLUMNS_180 = "N9".repeat(19) + "i";
    private static final String PARTS_40 = "F".repeat(39) + "a";
    private static final String LINES_20 = "Va".repeat(19) + "b";

    public static void main(String[] args) {
        newObject();
        type();
        wipe();
        wipeLeavesNothing();
        undo();
        faultOfBytes();
        faultOfEnds();
        faultOfChoices();
        faultIsEmpty();
        width();
        part();
        frontierPlaces();
        frontierWidth();
        frontierBetter();
        frontierFlat();
        tried();
        best();
        over();
        noLayout();
        line();
        way();
        haste();
        enough();
        shrinks();
        spare();
        count();
        digest();
        calls();
        finish("BoundsTest");
    }

    private static void newObject() {
        says(1, "No text");
        is("undo()", new PrettyShapes().undo(), NOT);
        is("wipe()", new PrettyShapes().wipe(), 0);
        is("count(0)", new PrettyShapes().count(0), 0);
        is("type(97)", new PrettyShapes().type('a'), 1);
        says(1, "WIDTH 20");
        is("width(1)", new PrettyShapes().width(1), 20);
        is("best(4) of 20 columns", typed("HiHib").best(4), 0);
        is("best(4) of 21 columns", typed("HiHic").best(4), 1);
        says(1, "all SHEETS are LOST");
        for (int s = 0; s < 4; s++) {
            is("read(" + s + ")", new PrettyShapes().read(s), NULL);
            is("lose(" + s + ")", new PrettyShapes().lose(s), NULL);
        }
        is("count(8)", new PrettyShapes().count(8), 0);
    }

    private static void type() {
        says(2, "A byte (0 to 255)");
        for (int b = 0; b <= 255; b++) is("type(" + b + ")", new PrettyShapes().type(b), 1);
        for (int b : outside(0, 255)) is("type(" + b + ")", new PrettyShapes().type(b), BAD);
        says(2, "comes behind the text: how many");
        PrettyShapes x = typed("Ha");
        is("type(98)", x.type('b'), 3);
        is("part(2, 0)", x.part(2, 0), 2);
        says(2, "a text of up to 40 bytes");
        PrettyShapes full = typed("F".repeat(38));
        is("the 39th", full.type('F'), 39);
        is("the 40th", full.type('a'), 40);
        is("the 41st", full.type('a'), FULL);
        is("fault() of 40 bytes", full.fault(), NONE);
        is("best(0) of 40 bytes", full.best(0), 1);
        is("count(0)", full.count(0), 40);
        says(2, "BAD; FULL, the first that fits");
        for (int b : outside(0, 255)) is("type(" + b + ") behind 40", full.type(b), BAD);
        says(2, "no longer FULL");
        full.undo();
        is("type(98) behind 39", full.type('b'), 40);
        is("best(1)", full.best(1), 2);
        full.wipe();
        is("type(98) behind none", full.type('b'), 1);
    }

    private static void wipe() {
        says(3, "how many bytes it had");
        is("wipe() of none", new PrettyShapes().wipe(), 0);
        is("wipe() of 1", typed("a").wipe(), 1);
        is("wipe() of 39", typed(COLUMNS_180).wipe(), 39);
        is("wipe() of 40", typed(PARTS_40).wipe(), 40);
        is("wipe() of 40 with a FAULT", typed("z".repeat(40)).wipe(), 40);
        says(3, "The text is empty");
        String[] texts = {"", "a", "z", STAIRS, PARTS_40, "C".repeat(40), "FVab", LINES_20};
        long none = new PrettyShapes().digest();
        for (String text : texts) {
            PrettyShapes x = typed(text);
            x.wipe();
            is("digest() behind " + text, x.digest(), none);
            is("undo() behind " + text, x.undo(), NOT);
            is("wipe() again behind " + text, x.wipe(), 0);
            is("type(97) behind " + text, x.type('a'), 1);
            is("digest() of a behind " + text, x.digest(), typed("a").digest());
        }
        PrettyShapes kept = typed("Hab", 7);
        kept.sheet(1, 2, 3);
        kept.put(1, 2, 2, 5);
        kept.lose(0);
        kept.wipe();
        is("WIDTH stays", kept.count(3), 7);
        is("a SHEET stays", kept.get(1, 2, 2), 5);
        is("count(8) stays", kept.count(8), 1);
    }

    /** What an earlier text left must not be seen in a later one. */
    private static void wipeLeavesNothing() {
        says(3, "The text is empty: nothing of it stays");
        String[] texts = {"a", "i", "FVab", "FCHabVab", "FCVabHab", "CHabVab", "CVdaVbb", "Habc", STAIRS, NARROW_FIRST, WIDE_FIRST,
            PARTS_40, LINES_20, COLUMNS_180, "CaCVabb", "HHHabcd", "CFVabCca"};
        int[] widths = {1, 4, 20};
        for (String first : texts) {
            for (String second : texts) {
                for (int v : widths) {
                    PrettyShapes x = typed(first, v);
                    x.wipe();
                    for (int i = 0; i < second.length(); i++) x.type(second.charAt(i));
                    is("digest() of " + second + " behind " + first + " for " + v, x.digest(), typed(second, v).digest());
                }
            }
        }
    }

    private static void undo() {
        says(4, "NOT: it is empty");
        PrettyShapes x = new PrettyShapes();
        is("undo() of none", x.undo(), NOT);
        is("undo() of none again", x.undo(), NOT);
        is("count(0)", x.count(0), 0);
        is("count(8), no FINDING", x.count(8), 0);
        x.type('a');
        is("undo() of 1", x.undo(), 0);
        is("undo() of none", x.undo(), NOT);
        x.type('a');
        x.wipe();
        is("undo() of what was wiped", x.undo(), NOT);
        says(4, "The last byte is undone: how many are left");
        PrettyShapes full = typed(PARTS_40);
        full.type('b');
        is("undo() of 40", full.undo(), 39);
        is("fault() of 39", full.fault(), 39);
        is("type(97)", full.type('a'), 40);
        String[] texts = {STAIRS, "CHabVabc", "CCCCCCCabcdefgh", "FVab", "N1", "zz"};
        for (String text : texts) {
            PrettyShapes all = typed(text);
            for (int left = text.length() - 1; left >= 0; left--) {
                is("undo() of " + text, all.undo(), left);
                is("digest() then", all.digest(), typed(text.substring(0, left)).digest());
            }
        }
    }

    private static int faultOf(String text) {
        return typed(text).fault();
    }

    private static void faultOfBytes() {
        says(5, "an empty one is well");
        is("fault()", faultOf(""), NONE);
        says(5, "a to i: a WORD of 1 to 9 columns");
        for (int b = 0; b <= 255; b++) {
            boolean opens = "HVCNF".indexOf(b) >= 0;
            boolean word = b >= 'a' && b <= 'i';
            PrettyShapes x = typed(String.valueOf((char) b));
            is("fault() of the byte " + b, x.fault(), word ? NONE : opens ? 1 : 0);
            is("best(2) of the byte " + b, x.best(2), word ? b - 'a' + 1 : NONE);
        }
        says(5, "N, a figure 1 to 9 and a DOC");
        for (int b = 0; b <= 255; b++) {
            boolean figure = b >= '1' && b <= '9';
            PrettyShapes x = typed("N" + (char) b + "a");
            is("fault() of N, the byte " + b + ", a", x.fault(), figure ? NONE : 1);
            is("best(2) of N, the byte " + b + ", a", x.best(2), figure ? b - '0' + 1 : NONE);
        }
        says(5, "the place of the first byte with which it cannot go on");
        is("fault() of Hzz", faultOf("Hzz"), 1);
        is("fault() of HazC", faultOf("HazC"), 2);
        is("fault() of HN0Nz", faultOf("HN0Nz"), 2);
        is("fault() of zCCCCCCC", faultOf("zCCCCCCC"), 0);
        is("fault() of CCCCCCCz", faultOf("CCCCCCCz"), 6);
        is("fault() of CCCCCCzC", faultOf("CCCCCCzC"), 6);
        is("fault() in the 40th byte", faultOf("F".repeat(39) + "z"), 39);
    }

    private static void faultOfEnds() {
        says(5, "of one that is not ended, its end");
        String[] open = {"H", "Ha", "HHab", "V", "Va", "C", "Ca", "N", "N1", "F", "HaN", "HaN9", "HaF", "CCCCCC", "F".repeat(39)};
        for (String text : open) is("fault() of " + text, faultOf(text), text.length());
        is("fault() of 40 that is not ended", faultOf("F".repeat(40)), 40);
        is("fault() of 40 that ends in N1", faultOf("F".repeat(38) + "N1"), 40);
        is("fault() of 40 that ends in N", faultOf("F".repeat(39) + "N"), 40);
        says(5, "also of the first byte behind the DOC");
        String[] ended = {"a", "Hab", "Vab", "Cab", "N1a", "Fa", "HaN9b", PARTS_40.substring(1), NARROW_FIRST};
        for (String text : ended) {
            is("fault() of " + text, faultOf(text), NONE);
            is("fault() of it and a", faultOf(text + "a"), text.length());
            is("fault() of it and H", faultOf(text + "H"), text.length());
            is("fault() of it and C", faultOf(text + "C"), text.length());
            is("fault() of it and 0", faultOf(text + "\0"), text.length());
        }
        is("fault() of more behind it", faultOf("Habcc"), 3);
    }

    private static void faultOfChoices() {
        says(5, "a CHOICE, 6 at most");
        is("fault() of six", faultOf("CCCCCCabcdefg"), NONE);
        is("count(2) of six", typed("CCCCCCabcdefg").count(2), 6);
        is("fault() of six beside one another", faultOf(NARROW_FIRST), NONE);
        says(5, "and of the C of a seventh CHOICE");
        is("fault() of seven", faultOf("CCCCCCCabcdefgh"), 6);
        is("fault() of seven, not ended", faultOf("CCCCCCC"), 6);
        is("fault() of six, not ended", faultOf("CCCCCC"), 6);
        is("fault() of seven beside one another", faultOf("HCab" + NARROW_FIRST), 24);
        is("fault() of a seventh in the last place", faultOf("CaCbCcCdCeCfCgh"), 12);
        is("fault() of eight", faultOf("CCCCCCCC"), 6);
        PrettyShapes x = typed("CCCCCCCabcdefgh");
        is("count(2) of seven", x.count(2), 0);
        for (int left = 14; left >= 6; left--) x.undo();
        is("fault() of six again", x.fault(), 6);
        x.type('a');
        is("fault() without the seventh", x.fault(), 7);
    }

    private static void faultIsEmpty() {
        says(5, "With a FAULT it is as if it was empty");
        String[] texts = {"Habc", "CHabVabC", STAIRS + "a", STAIRS.substring(0, 34), "CCCCCCCabcdefgh", "z", "F".repeat(40)};
        for (String text : texts) {
            PrettyShapes x = typed(text), none = new PrettyShapes();
            for (int what = 1; what <= 7; what++) is("count(" + what + ") of " + text, x.count(what), none.count(what));
            is("part(0, 0) of " + text, x.part(0, 0), BAD);
            is("frontier(0, 0, 0) of " + text, x.frontier(0, 0, 0), BAD);
            for (int what = 0; what <= 1; what++) is("tried(" + what + ") of " + text, x.tried(what), 0);
            for (int what = 0; what <= 4; what++) is("best(" + what + ") of " + text, x.best(what), NONE);
            is("line(0, NONE) of " + text, x.line(0, NONE), NONE);
            is("line(0, 0) of " + text, x.line(0, 0), NONE);
            is("way(0, 0) of " + text, x.way(0, 0), NONE);
            is("haste(0) of " + text, x.haste(0), NONE);
            is("enough() of " + text, x.enough(), NONE);
            is("shrinks(NONE) of " + text, x.shrinks(NONE), 0);
            is("shrinks(0) of " + text, x.shrinks(0), NONE);
            is("spare() of " + text, x.spare(), 0);
            x.sheet(0, 0, 9);
            is("write(0, 0) of " + text, x.write(0, 0), 0);
            is("its bytes stay: " + text, x.count(0), text.length());
        }
    }

    private static void width() {
        says(6, "WIDTH (1 to 99): what it was");
        PrettyShapes x = new PrettyShapes();
        int was = 20;
        for (int v = 1; v <= 99; v++) {
            is("width(" + v + ")", x.width(v), was);
            is("count(3)", x.count(3), v);
            was = v;
        }
        is("width(99) again", x.width(99), 99);
        for (int v : outside(1, 99)) {
            is("width(" + v + ")", x.width(v), BAD);
            is("count(3)", x.count(3), 99);
        }
        says(6, "all is for the WIDTH that is told last");
        PrettyShapes y = typed("CHabVab", 2);
        y.width(3);
        is("best(0) for 3", y.best(0), 1);
        y.width(2);
        is("best(0) for 2", y.best(0), 2);
        y.width(100);
        is("best(0) when 100 was refused", y.best(0), 2);
        y.width(1);
        is("best(4) for 1", y.best(4), 1);
    }

    private static void part() {
        says(8, "PARTS of it are all DOCS in it, 0 on by the byte with which they begin, itself too");
        is("part(0, 0) of one", typed("a").part(0, 0), 0);
        is("part(0, 1) of one", typed("a").part(0, 1), 1);
        is("part(1, 0) of one", typed("a").part(1, 0), BAD);
        PrettyShapes most = typed(PARTS_40);
        is("count(1) of 40", most.count(1), 40);
        is("part(0, 1) of 40", most.part(0, 1), 40);
        for (int p = 0; p < 40; p++) {
            is("part(" + p + ", 0) of 40", most.part(p, 0), p);
            is("part(" + p + ", 1) of 40", most.part(p, 1), 40 - p);
            is("part(" + p + ", 2) of 40", most.part(p, 2), 1);
            is("part(" + p + ", 3) of 40", most.part(p, 3), p - 1);
        }
        is("part(40, 0) of 40", most.part(40, 0), BAD);
        says(8, "the byte with which it begins, how many bytes it has: a figure is no PART");
        PrettyShapes pushed = typed("HN9aN1N2b");
        int[][] due = {{0, 9, 1, NONE}, {1, 3, 1, 0}, {3, 1, 1, 1}, {4, 5, 1, 0}, {6, 3, 1, 3}, {8, 1, 1, 4}};
        for (int p = 0; p < due.length; p++)
            for (int w = 0; w < 4; w++) is("part(" + p + ", " + w + ")", pushed.part(p, w), due[p][w]);
        is("part(6, 0)", pushed.part(6, 0), BAD);
        says(8, "NONE: it is the whole DOC");
        is("part(0, 3) of a", typed("a").part(0, 3), NONE);
        is("part(0, 3) of Hab", typed("Hab").part(0, 3), NONE);
        is("part(1, 3) of Hab", typed("Hab").part(1, 3), 0);
        is("part(2, 3) of Hab", typed("Hab").part(2, 3), 0);
        says(8, "how many its FRONTIER has: perhaps none");
        is("part(0, 2) of i for 8", typed("i", 8).part(0, 2), 0);
        is("part(0, 2) of i for 9", typed("i", 9).part(0, 2), 1);
        is("part(0, 2) of FVab", typed("FVab").part(0, 2), 0);
        is("part(0, 2) of seven", typed(STAIRS, 99).part(0, 2), 7);
    }

    private static void frontierPlaces() {
        says(9, "the i-th (0 to 63) of the FRONTIER; NONE");
        PrettyShapes x = typed(STAIRS, 99);
        int[] most = {42, 36, 30, 24, 18, 12, 12};
        // Of those with as many seconds most have the like SHAPE: the first that is tried stays.
        int[] ways = {0, 16, 24, 28, 30, 31, 63};
        for (int k = 0; k <= 6; k++) shape("STAIRS", x, 0, k, k + 1, 42 - 6 * k, most[k], ways[k]);
        for (int what = 0; what <= 3; what++) {
            is("frontier(0, 7, " + what + ")", x.frontier(0, 7, what), NONE);
            is("frontier(0, 63, " + what + ")", x.frontier(0, 63, what), NONE);
            is("frontier(0, 64, " + what + ")", x.frontier(0, 64, what), BAD);
            is("frontier(0, -1, " + what + ")", x.frontier(0, -1, what), BAD);
        }
        int last = x.count(1) - 1;
        is("of the last PART", x.frontier(last, 0, 1), 1);
        is("behind the last PART", x.frontier(last + 1, 0, 1), BAD);
        says(9, "NONE: of an empty FRONTIER");
        for (int what = 0; what <= 3; what++) is("frontier(0, 0, " + what + ")", typed("i", 8).frontier(0, 0, what), NONE);
        says(9, "WAY: CHOICES that are not in it: 0");
        PrettyShapes nested = typed("CVaaCVabHab");
        shape("the first, without the CHOICE in the second", nested, 0, 0, 2, 1, 1, 0);
        shape("both seconds", nested, 0, 1, 1, 3, 3, 3);
        shape("of the inner CHOICE, without the outer one", nested, 4, 1, 1, 3, 3, 2);
    }

    private static void frontierWidth() {
        says(9, "one whose MOST is above WIDTH is LET GO");
        String[] texts = {"a", "i", "Hab", "Vab", "Vba", "N2a", "Fb", "Cbc", "HVdab", COLUMNS_99};
        int[] least = {1, 9, 3, 2, 2, 3, 2, 2, 4, 99};
        for (int t = 0; t < texts.length; t++) {
            is("part(0, 2) of " + texts[t] + " for " + least[t], typed(texts[t], least[t]).part(0, 2), 1);
            if (least[t] > 1) is("part(0, 2) of it for one less", typed(texts[t], least[t] - 1).part(0, 2), 0);
        }
        is("part(0, 2) of 100 columns for 99", typed(COLUMNS_100, 99).part(0, 2), 0);
        is("part(1, 2) of 100 columns for 99", typed(COLUMNS_100, 99).part(1, 2), 1);
        says(9, "MOST: the greater of the first's MOST and the first's LAST and the second's MOST together");
        shape("the first's is greater", typed("HVeab"), 0, 0, 2, 3, 5, 0);
        shape("they are like", typed("HVcab"), 0, 0, 2, 3, 3, 0);
        shape("the second's is greater", typed("HVbab"), 0, 0, 2, 3, 3, 0);
        shape("LAST is not MOST", typed("HaVca"), 0, 0, 2, 2, 4, 0);
        says(9, "MOST the greater of both");
        shape("the first's is greater", typed("Vcb"), 0, 0, 2, 2, 3, 0);
        shape("the second's is greater", typed("Vbc"), 0, 0, 2, 3, 3, 0);
        says(9, "PUSHED: LAST and MOST are so much more");
        shape("by 1", typed("N1Vba"), 0, 0, 2, 2, 3, 0);
        shape("by 9", typed("N9Vba"), 0, 0, 2, 10, 11, 0);
    }

    private static void frontierBetter() {
        says(9, "BETTER, if none of LINES, LAST, MOST is greater, and any is less");
        String[][] pairs = {{"b", "Vbb"}, {"Vba", "Vbb"}, {"Vab", "Vcb"}, {"a", "Vcb"}};
        for (String[] pair : pairs) {
            PrettyShapes ahead = typed("C" + pair[0] + pair[1]), behind = typed("C" + pair[1] + pair[0]);
            is("part(0, 2), the BETTER one first: " + pair[0], ahead.part(0, 2), 1);
            is("its WAY", ahead.frontier(0, 0, 3), 0);
            is("LET GO", ahead.tried(1), 1);
            is("part(0, 2), the BETTER one second: " + pair[0], behind.part(0, 2), 1);
            is("its WAY", behind.frontier(0, 0, 3), 1);
            is("LET GO", behind.tried(1), 1);
        }
        String[][] unlike = {{"b", "Vaa"}, {"Vbb", "Vca"}, {"Vab", "b"}, {"Vda", "d"}};
        int[] there = {2, 2, 1, 2};
        for (int i = 0; i < unlike.length; i++) {
            is("part(0, 2) of " + unlike[i][0] + " or " + unlike[i][1], typed("C" + unlike[i][0] + unlike[i][1]).part(0, 2), there[i]);
            is("the other way round", typed("C" + unlike[i][1] + unlike[i][0]).part(0, 2), there[i]);
        }
        says(9, "or as which one there has the SHAPE");
        PrettyShapes like = typed("CVcbVHbab");
        is("part(0, 2)", like.part(0, 2), 1);
        is("the first stays", like.frontier(0, 0, 3), 0);
        is("LET GO", like.tried(1), 1);
        says(9, "and all that it is BETTER than are LET GO");
        PrettyShapes all = typed("CCVcaVbba");
        is("there are two in the first", all.part(1, 2), 2);
        is("there is one in all", all.part(0, 2), 1);
        shape("it is the last", all, 0, 0, 1, 1, 1, 1);
        is("LET GO", all.tried(1), 2);
        says(9, "else it is there, behind all others");
        PrettyShapes kept = typed("CCCVcadVaVaac");
        int[][] three = {{2, 1, 3, 0}, {1, 4, 4, 4}, {3, 1, 1, 2}};
        int[][] then = {{2, 1, 3, 0}, {3, 1, 1, 2}, {1, 3, 3, 1}};
        for (int i = 0; i < 3; i++) {
            shape("three", kept, 1, i, three[i]);
            shape("the middle one LET GO", kept, 0, i, then[i]);
        }
        is("part(1, 2)", kept.part(1, 2), 3);
        is("part(0, 2)", kept.part(0, 2), 3);
    }

    private static void frontierFlat() {
        says(9, "FLAT: LAYOUTS of one line alone");
        shape("one line", typed("FHab"), 0, 0, 1, 3, 3, 0);
        is("two lines", typed("FVab").part(0, 2), 0);
        shape("one line of two", typed("FCVabHab"), 0, 0, 1, 3, 3, 1);
        is("one of two", typed("FCVabHab").part(0, 2), 1);
        is("FLAT within BESIDE does not bar UNDER beside it", typed("HFaVab").part(0, 2), 1);
        is("FLAT within UNDER does not bar UNDER", typed("VFaFb").part(0, 2), 1);
        is("FLAT around BESIDE with UNDER in it", typed("FHaVab").part(0, 2), 0);
        says(10, "or that FLAT does not allow, is LET GO");
        PrettyShapes x = typed("FCVabHab");
        is("tried(0)", x.tried(0), 10);
        is("tried(1)", x.tried(1), 1);
        is("LET GO once, where it is too wide too", typed("FVab", 1).tried(1), 1);
    }

    private static void tried() {
        says(10, "TRIED, LET GO, of all PARTS: none, where there is no DOC");
        for (int what = 0; what <= 1; what++) is("tried(" + what + ")", new PrettyShapes().tried(what), 0);
        for (int what : outside(0, 1)) is("tried(" + what + ")", new PrettyShapes().tried(what), BAD);
        says(10, "a LAYOUT whose MOST is above WIDTH is TRIED and LET GO");
        is("tried(0) of i for 9", typed("i", 9).tried(0), 1);
        is("tried(1) of i for 9", typed("i", 9).tried(1), 0);
        is("tried(0) of i for 8", typed("i", 8).tried(0), 1);
        is("tried(1) of i for 8", typed("i", 8).tried(1), 1);
        says(10, "each of the first's FRONTIER with each of the second's: none, where one is empty");
        is("tried(0) of Hib for 8", typed("Hib", 8).tried(0), 2);
        is("tried(0) of Hbi for 8", typed("Hbi", 8).tried(0), 2);
        is("tried(0) of Hai for 9", typed("Hai", 9).tried(0), 3);
        is("tried(1) of Hai for 9", typed("Hai", 9).tried(1), 1);
        is("tried(0) of Vii for 8", typed("Vii", 8).tried(0), 2);
        is("tried(0) of N1i for 8", typed("N1i", 8).tried(0), 1);
        is("tried(0) of Fi for 8", typed("Fi", 8).tried(0), 1);
        is("tried(0) of Cia for 8", typed("Cia", 8).tried(0), 3);
        says(10, "for WIDTH, OVER or not");
        is("tried(0), OVER", typed("CHabVab", 1).tried(0), 4);
        is("tried(1), OVER", typed("CHabVab", 1).tried(1), 2);
        is("tried(0) of 40 PARTS", typed(PARTS_40).tried(0), 40);
    }

    private static void best() {
        says(11, "with the fewest LINES, of like ones the least MOST");
        best("the fewest LINES, though wider", typed("CVaaHii", 18), 1, 18, 18, 1, 0);
        best("the fewest LINES do not fit by 1", typed("CVaaHii", 17), 2, 1, 1, 0, 0);
        best("of like LINES the least MOST, second", typed("CVeaVcc"), 2, 3, 3, 1, 0);
        best("of like LINES the least MOST, first", typed("CVccVea"), 2, 3, 3, 0, 0);
        says(11, "of like ones the first");
        best("the first of two", typed("Caa"), 1, 1, 1, 0, 0);
        best("the first of many", typed("CCCCCCaaaaaaa"), 1, 1, 1, 0, 0);
        says(11, "WAY of a LAYOUT: CHOICES in it by which the second is taken, as bits");
        best("all six", typed(WIDE_FIRST, 6), 1, 6, 6, 63, 0);
        best("none of six", typed(NARROW_FIRST, 6), 1, 6, 6, 0, 0);
        best("the sixth alone", typed("HCabHCabHCabHCabHCabCba"), 1, 6, 6, 32, 0);
        best("not those in what was not taken", typed("CCCCCCgfedcba"), 1, 1, 1, 1, 0);
        for (int what : outside(0, 4)) is("best(" + what + ")", typed("a").best(what), BAD);
    }

    private static void over() {
        says(11, "If the FRONTIER is empty, it is OVER");
        String[] texts = {"i", "Hab", "Vab", "N9i", "Cbc", STAIRS, COLUMNS_99};
        int[] enough = {9, 3, 2, 18, 2, 12, 99};
        for (int t = 0; t < texts.length; t++) {
            is("best(4) of " + texts[t] + " for " + enough[t], typed(texts[t], enough[t]).best(4), 0);
            is("best(4) of it for one less", typed(texts[t], enough[t] - 1).best(4), 1);
        }
        is("best(4) of a for 1", typed("a", 1).best(4), 0);
        best("100 columns for 99", typed(COLUMNS_100, 99), 1, 100, 100, 0, 1);
        best("180 columns for 99", typed(COLUMNS_180, 99), 1, 180, 180, 0, 1);
        best("180 columns for 1", typed("Hi".repeat(19) + "i", 1), 1, 180, 180, 0, 1);
        says(11, "BEST is that one with the least MOST, of like ones the fewest LINES, of like ones the least LAST");
        best("the least MOST, though more LINES", typed("CHaaVVVaaab", 1), 1, 2, 2, 0, 1);
        best("the least MOST, though more LINES", typed("CHbaVVVaaab", 1), 4, 2, 2, 1, 1);
        best("of like MOST the fewest LINES", typed("CVbVaab", 1), 1, 2, 2, 1, 1);
        best("of like MOST and LINES the least LAST", typed("CVbbVba", 1), 2, 1, 2, 1, 1);
        best("the first of like ones", typed("Cbb", 1), 1, 2, 2, 0, 1);
        best("STAIRS, the least MOST", typed(STAIRS, 1), 6, 12, 12, 31, 1);
        says(11, "OVER: as if WIDTH was so great that all fit, in all PARTS");
        best("parts that do not fit", typed("HCiVeeVCbaCab", 1), 3, 6, 6, 3, 1);
    }

    private static void noLayout() {
        says(11, "If there is none then, there is no LAYOUT");
        String[] texts = {"FVab", "HaFVab", "VFVaba", "N1FVab", "FFVab", "CFVabFVba", "HCabFVab"};
        for (String text : texts) {
            for (int v = 1; v <= 99; v += 49) {
                PrettyShapes x = typed(text, v);
                for (int what = 0; what <= 4; what++) is("best(" + what + ") of " + text + " for " + v, x.best(what), NONE);
                is("count(7) of " + text, x.count(7), NONE);
                is("line(0, NONE) of " + text, x.line(0, NONE), NONE);
                is("haste(0) of " + text, x.haste(0), NONE);
                is("enough() of " + text, x.enough(), NONE);
                is("shrinks(NONE) of " + text, x.shrinks(NONE), 0);
                is("spare() of " + text, x.spare(), 0);
                is("fault() of " + text, x.fault(), NONE);
            }
        }
        best("one way alone is barred", typed("CFVabb"), 1, 2, 2, 1, 0);
    }

    private static void line() {
        says(12, "NONE: there is no such line");
        PrettyShapes x = typed(LINES_20);
        for (int l = 0; l < 20; l++) is("line(" + l + ", NONE)", x.line(l, NONE), l < 19 ? 1 : 2);
        for (int l = 20; l <= 99; l++) is("line(" + l + ", NONE)", x.line(l, NONE), NONE);
        is("line(20, 0)", x.line(20, 0), NONE);
        is("line(99, 0)", x.line(99, 0), NONE);
        says(12, "a line (0 to 99)");
        for (int l : outside(0, 99)) is("line(" + l + ", NONE)", x.line(l, NONE), BAD);
        says(12, "the byte in a column (0 to 399); NONE: there is no such column");
        PrettyShapes far = typed(COLUMNS_180);
        is("line(0, NONE)", far.line(0, NONE), 180);
        is("line(0, 0)", far.line(0, 0), 32);
        is("line(0, 170)", far.line(0, 170), 32);
        is("line(0, 171)", far.line(0, 171), 'i');
        is("line(0, 179)", far.line(0, 179), 'i');
        is("line(0, 180)", far.line(0, 180), NONE);
        is("line(0, 399)", far.line(0, 399), NONE);
        for (int c : outside(NONE, 399)) is("line(0, " + c + ")", far.line(0, c), BAD);
        says(12, "a WORD is its letter in all its columns");
        for (char c = 'a'; c <= 'i'; c++) page("one WORD", typed(String.valueOf(c)), String.valueOf(c).repeat(c - 'a' + 1));
        says(12, "all else ahead of the end of a line is blank (32)");
        page("ahead of a WORD", typed("N1a"), " a");
        page("between WORDS", typed("HaN2b"), "a  bb");
        page("nothing behind the end", typed("VN2ab"), "  a", "bb");
        page("under where the first ends", typed("HcVab"), "ccca", "   bb");
        page("under the last line of the first", typed("HVcaVba"), "ccc", "abb", " a");
        page("PUSHED, all lines", typed("N2HaVbN1c"), "  abb", "    ccc");
        says(12, "SET is the LAYOUT of BEST, OVER too");
        page("OVER", typed("CHabVab", 1), "a", "bb");
        page("not OVER", typed("CHabVab", 3), "abb");
        page("the seconds", typed("CHbaVbCba", 2), "bb", "a");
    }

    private static void way() {
        says(13, "CHOICES told as bits (0 to 63)");
        PrettyShapes x = typed(NARROW_FIRST, 1), y = typed(WIDE_FIRST, 1);
        for (int w = 0; w <= 63; w++) {
            is("way(" + w + ", 2)", x.way(w, 2), 6 + Integer.bitCount(w));
            is("way(" + w + ", 1)", y.way(w, 1), 12 - Integer.bitCount(w));
            is("way(" + w + ", 0)", y.way(w, 0), 1);
        }
        for (int w : outside(0, 63)) is("way(" + w + ", 0)", x.way(w, 0), BAD);
        for (int what : outside(0, 2)) is("way(0, " + what + ")", x.way(0, what), BAD);
        says(13, "those that are not in it do not count");
        for (int w = 0; w <= 63; w++) {
            is("way(" + w + ", 2) of no CHOICE", typed("c").way(w, 2), 3);
            is("way(" + w + ", 2) of a CHOICE in the second", typed("CaCbc").way(w, 2), (w & 1) == 0 ? 1 : 2 + (w >> 1 & 1));
        }
        says(13, "NONE: FLAT does not allow it, there is no DOC");
        for (int what = 0; what <= 2; what++) {
            is("way(0, " + what + "), FLAT", typed("FCVabHab").way(0, what), NONE);
            is("way(1, " + what + "), FLAT", typed("FCVabHab").way(1, what), what == 0 ? 1 : 3);
            is("way(0, " + what + "), no DOC", new PrettyShapes().way(0, what), NONE);
            is("way(63, " + what + "), no DOC", new PrettyShapes().way(63, what), NONE);
            is("way(63, " + what + "), a FAULT", typed("Cabc").way(63, what), NONE);
        }
        for (int what = 0; what <= 2; what++) {
            is("way(0, " + what + "), FLAT bars the second", typed("FCHabVab").way(0, what), what == 0 ? 1 : 3);
            is("way(1, " + what + "), FLAT bars the second", typed("FCHabVab").way(1, what), NONE);
        }
        says(13, "WIDTH does not count");
        is("way(0, 2) of 180 columns for 1", typed(COLUMNS_180, 1).way(0, 2), 180);
    }

    private static void hasteIs(String what, PrettyShapes x, int... due) {
        for (int w = 0; w < due.length; w++) is(what + " haste(" + w + ")", x.haste(w), due[w]);
    }

    private static void haste() {
        says(14, "of each the first is taken, if there is a LAYOUT within WIDTH in which it is so, and all ahead as they were taken");
        for (int v = 6; v <= 12; v++) {
            int firsts = v - 6;
            hasteIs("WIDE_FIRST for " + v, typed(WIDE_FIRST, v), 63 & -(1 << firsts), 1, v);
            hasteIs("NARROW_FIRST for " + v, typed(NARROW_FIRST, v), 0, 1, 6);
        }
        hasteIs("WIDE_FIRST for 13", typed(WIDE_FIRST, 13), 0, 1, 12);
        says(14, "NONE: there is no LAYOUT within WIDTH");
        hasteIs("WIDE_FIRST for 5", typed(WIDE_FIRST, 5), NONE, NONE, NONE);
        hasteIs("i for 9", typed("i", 9), 0, 1, 9);
        hasteIs("i for 8", typed("i", 8), NONE, NONE, NONE);
        hasteIs("LAST is within WIDTH, MOST is not", typed("Vda", 3), NONE, NONE, NONE);
        hasteIs("LAST of the first is within WIDTH, MOST is not", typed("CVdaVbb", 2), 1, 2, 2);
        hasteIs("no DOC", new PrettyShapes(), NONE, NONE, NONE);
        hasteIs("a FAULT", typed("Cabc"), NONE, NONE, NONE);
        hasteIs("FLAT bars all", typed("CFVabFVba"), NONE, NONE, NONE);
        hasteIs("99 columns for 99", typed(COLUMNS_99, 99), 0, 1, 99);
        hasteIs("100 columns for 99", typed(COLUMNS_100, 99), NONE, NONE, NONE);
        says(14, "CHOICES that are not in it are as told: the first");
        hasteIs("the inner one is not in it", typed("CCiha", 1), 1, 1, 1);
        hasteIs("FLAT bars the first", typed("CFVabCca"), 1, 1, 3);
        hasteIs("both seconds", typed("CFVabCca", 2), 3, 1, 1);
        says(14, "LINES, MOST of HASTE, not of BEST");
        hasteIs("two lines, where one would do", typed("CVabHab"), 0, 2, 2);
        for (int what : outside(0, 2)) is("haste(" + what + ")", typed("a").haste(what), BAD);
    }

    private static void enough() {
        says(15, "the least WIDTH (1 to 99) for which it is not OVER; NONE");
        is("enough() of a", typed("a").enough(), 1);
        is("enough() of b", typed("b").enough(), 2);
        is("enough() of i for 1", typed("i", 1).enough(), 9);
        is("enough() of 99 columns", typed(COLUMNS_99).enough(), 99);
        is("enough() of 100 columns", typed(COLUMNS_100).enough(), NONE);
        is("enough() of 180 columns", typed(COLUMNS_180).enough(), NONE);
        is("enough() of 100 columns or 99", typed("N9".repeat(10) + "CN1ii").enough(), 99);
        is("enough() of 100 columns or 101", typed("N9".repeat(10) + "CN1iN2i").enough(), NONE);
        is("enough() of STAIRS", typed(STAIRS, 1).enough(), 12);
        is("enough() of no DOC", new PrettyShapes().enough(), NONE);
        is("enough() of a FAULT", typed("ab").enough(), NONE);
        is("enough() of no LAYOUT", typed("FVab").enough(), NONE);
    }

    private static void shrinks() {
        says(16, "How many SHRINKS (i = NONE), the i-th (0 to 39); NONE");
        PrettyShapes x = typed(STAIRS, 1);
        is("shrinks(NONE)", x.shrinks(NONE), 5);
        for (int i = 0; i < 5; i++) is("shrinks(" + i + ")", x.shrinks(i), 18 + 6 * i);
        is("shrinks(5)", x.shrinks(5), NONE);
        is("shrinks(39)", x.shrinks(39), NONE);
        for (int i : outside(NONE, 39)) is("shrinks(" + i + ")", x.shrinks(i), BAD);
        says(16, "WIDTHS (2 to 99)");
        is("shrinks(NONE) at 2", typed("CVaaHaa").shrinks(NONE), 1);
        is("shrinks(0) at 2", typed("CVaaHaa").shrinks(0), 2);
        is("shrinks(0) at 99", typed("N9".repeat(10) + "CVghHbg").shrinks(0), 99);
        is("shrinks(NONE) at 100", typed("N9".repeat(10) + "CVghHcg").shrinks(NONE), 0);
        says(16, "fewer LINES than for one less, where that is not OVER");
        is("not at ENOUGH", typed("a").shrinks(NONE), 0);
        is("not at ENOUGH, of two ways", typed("CHabVbb").shrinks(0), 3);
        is("not at ENOUGH, the wider with more LINES", typed("CHabVcc").shrinks(NONE), 0);
        is("not where LINES are as many", typed("Cab").shrinks(NONE), 0);
        is("not where LINES are as many, of two lines", typed("CVabVba").shrinks(NONE), 0);
        // Of like MOST the fewest LINES count, in whatever order they come.
        is("of like MOST, the fewest LINES first", typed("CCCbVbbVaVaac").shrinks(NONE), 1);
        is("of like MOST, the fewest LINES last", typed("CCCVbbbVaVaac").shrinks(NONE), 1);
        is("of like MOST, more LINES with less LAST", typed("CCCVbbVbVbaVaVaVaaVcc").shrinks(NONE), 1);
        is("two less at once", typed("CVaVaaHHaaa").shrinks(NONE), 1);
        is("shrinks(0) of two less at once", typed("CVaVaaHHaaa").shrinks(0), 3);
        says(16, "none, where there is no BEST that is not OVER");
        String[] texts = {"", "ab", "FVab", COLUMNS_100};
        for (String text : texts) {
            is("shrinks(NONE) of " + text, typed(text).shrinks(NONE), 0);
            is("shrinks(0) of " + text, typed(text).shrinks(0), NONE);
        }
    }

    private static void spare() {
        says(17, "leaves BEST as many LINES as it has");
        is("spare() of six", typed(NARROW_FIRST, 99).spare(), 63);
        is("spare() of six, wide ones first", typed(WIDE_FIRST, 12).spare(), 63);
        is("spare(), all of six are needed", typed(WIDE_FIRST, 6).spare(), 0);
        is("spare(), five of six are needed, any", typed(WIDE_FIRST, 7).spare(), 63);
        is("spare(), the sixth is needed", typed("HCabHCabHCabHCabHCabCVabHab", 99).spare(), 31);
        is("spare(), the first is needed", typed("HCVabHabHCabHCabHCabHCabCab", 99).spare(), 62);
        is("spare() of one line more", typed("CVabHab", 3).spare(), 0);
        is("spare() of one line more, where it is so anyway", typed("CVabHab", 2).spare(), 1);
        says(17, "and OVER as it is");
        is("spare(), OVER without it", typed("Cba", 1).spare(), 0);
        is("spare(), not OVER without it", typed("Cba", 2).spare(), 1);
        is("spare(), OVER without it by MOST, not by LAST", typed("CVdaVbb", 2).spare(), 0);
        is("spare(), OVER with it too", typed("Ccb", 1).spare(), 1);
        is("spare(), OVER, other LINES without it", typed("CHabVab", 1).spare(), 0);
        is("spare(), OVER, as many LINES without it", typed("CVbbVba", 1).spare(), 1);
        says(17, "were the first always taken: FLAT may bar it");
        is("spare(), no LAYOUT without it", typed("CFVaba").spare(), 0);
        is("spare(), OVER, no LAYOUT without it", typed("CFVabb", 1).spare(), 0);
        says(17, "none, where there is no LAYOUT");
        is("spare() of FVab", typed("FVab").spare(), 0);
        is("spare() of HCabFVab", typed("HCabFVab").spare(), 0);
        is("spare() of CFVabFVba", typed("CFVabFVba").spare(), 0);
        is("spare() of no DOC", new PrettyShapes().spare(), 0);
        is("spare() of a FAULT", typed("Cabc").spare(), 0);
        is("spare() without CHOICES", typed("Hab").spare(), 0);
    }

    private static void count() {
        says(24, "0 bytes, .. 8 the number of the latest FINDING. BAD");
        PrettyShapes x = new PrettyShapes();
        int[] none = {0, 0, 0, 20, 0, 0, 0, NONE, 0};
        for (int what = 0; what <= 8; what++) is("count(" + what + ")", x.count(what), none[what]);
        for (int what : outside(0, 8)) is("count(" + what + ")", x.count(what), BAD);
        PrettyShapes most = typed(PARTS_40, 99);
        int[] due = {40, 40, 0, 99, 1, 40, 0, 1, 0};
        for (int what = 0; what <= 8; what++) is("count(" + what + ") of 40", most.count(what), due[what]);
        says(24, "how many the FRONTIER of the whole DOC has, when it is OVER");
        is("count(4) for 3", typed("CHabVab", 3).count(4), 2);
        is("count(4) for 2", typed("CHabVab", 2).count(4), 1);
        is("count(4) for 1", typed("CHabVab", 1).count(4), 0);
        says(24, "LINES of BEST (NONE)");
        is("count(7), OVER", typed("CHabVab", 1).count(7), 2);
        is("count(7) of 20 lines", typed(LINES_20).count(7), 20);
        is("count(7), no LAYOUT", typed("FVab").count(7), NONE);
        is("count(7), a FAULT", typed("Habc").count(7), NONE);
    }

    /** What digest() is made of, each asked for on an object of its own kind, lest one has too many calls. */
    private static List<Integer> digested(String text, int width) {
        PrettyShapes x = typed(text, width), y = typed(text, width);
        List<Integer> all = new ArrayList<>();
        for (int what = 0; what <= 7; what++) all.add(x.count(what));
        all.add(x.fault());
        for (int p = 0; p < x.count(1); p++) {
            PrettyShapes z = typed(text, width);
            for (int what = 0; what <= 3; what++) all.add(z.part(p, what));
            for (int i = 0; i <= 1; i++) for (int what = 0; what <= 3; what++) all.add(z.frontier(p, i, what));
        }
        for (int i = 0; i <= 7; i++) for (int what = 0; what <= 3; what++) all.add(x.frontier(0, i, what));
        for (int what = 0; what <= 1; what++) all.add(x.tried(what));
        for (int what = 0; what <= 4; what++) all.add(x.best(what));
        int[] columns = {NONE, 0, 5};
        for (int l = 0; l <= 9; l++) for (int c : columns) all.add(x.line(l, c));
        for (int w = 0; w <= 63; w++) for (int what = 0; what <= 2; what++) all.add(y.way(w, what));
        for (int what = 0; what <= 2; what++) all.add(x.haste(what));
        all.add(x.enough());
        for (int i = NONE; i <= 1; i++) all.add(x.shrinks(i));
        all.add(x.spare());
        return all;
    }

    private static void digest() {
        says(25, "h becomes 31 h and each of .., as longs that wrap");
        String[] texts = {"", "a", "Habc", "FVab", "CHabVab", STAIRS, PARTS_40, "C".repeat(40), LINES_20, NARROW_FIRST, COLUMNS_180};
        int[] widths = {1, 20, 99};
        for (String text : texts) {
            for (int v : widths) {
                BigInteger h = BigInteger.valueOf(17);
                for (int each : digested(text, v)) h = h.multiply(BigInteger.valueOf(31)).add(BigInteger.valueOf(each));
                is("digest() of '" + text + "' for " + v, typed(text, v).digest(), h.longValue());
            }
        }
        says(25, "(BAD, if there are no PARTS)");
        List<Integer> none = digested("", 20);
        for (int at = 9; at < 9 + 32; at++) is("number " + at, none.get(at), BAD);
        says(25, "count() 0 to 7");
        PrettyShapes x = typed("Hab");
        x.sheet(0, 0, 60);
        x.lose(1);
        is("neither SHEETS nor FINDINGS", x.digest(), typed("Hab").digest());
    }

    private static void calls() {
        says(25, "An object is used for at most 512 calls");
        PrettyShapes x = new PrettyShapes();
        for (int i = 0; i < 6; i++) x.type("CVaaab".charAt(i));
        for (int i = 6; i < 510; i += 2) {
            x.undo();
            x.type('b');
        }
        is("the 511th", x.undo(), 5);
        is("the 512th", x.digest(), typed("CVaaa").digest());
    }
}
