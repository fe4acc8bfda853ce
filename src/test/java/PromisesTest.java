/** For each promise, by its number: ordinary calls, the edges that the document names, wrong ones. */
public final class PromisesTest extends Check {
    public static void main(String[] args) {
        newObject();
        type();
        wipe();
        undo();
        fault();
        width();
        read();
        part();
        frontier();
        tried();
        best();
        line();
        way();
        haste();
        enough();
        shrinks();
        spare();
        sheet();
        lose();
        put();
        get();
        copy();
        write();
        count();
        digest();
        finish("PromisesTest");
    }

    private static void newObject() {
        promise = 1;
        PrettyShapes x = new PrettyShapes();
        int[] due = {0, 0, 0, 20, 0, 0, 0, NONE, 0};
        for (int w = 0; w < due.length; w++) is("count(" + w + ")", x.count(w), due[w]);
        is("fault()", x.fault(), NONE);
        is("width(20)", x.width(20), 20);
        for (int s = 0; s < 4; s++) is("lose(" + s + ")", x.lose(s), NULL);
        PrettyShapes y = new PrettyShapes();
        y.type('a');
        is("another one's text", x.count(0), 0);
    }

    private static void type() {
        promise = 2;
        PrettyShapes x = new PrettyShapes();
        is("type(-1)", x.type(-1), BAD);
        is("type(256)", x.type(256), BAD);
        is("type(least)", x.type(LEAST), BAD);
        is("type(0)", x.type(0), 1);
        is("type(255)", x.type(255), 2);
        for (int i = 3; i <= 40; i++) is("type(97)", x.type('a'), i);
        is("type behind 40", x.type('a'), FULL);
        is("type(256) behind 40", x.type(256), BAD);
        is("count(0)", x.count(0), 40);
    }

    private static void wipe() {
        promise = 3;
        PrettyShapes x = typed("CHabVab", 2);
        is("wipe()", x.wipe(), 7);
        is("wipe() again", x.wipe(), 0);
        is("count(0)", x.count(0), 0);
        is("count(1)", x.count(1), 0);
        is("width stays", x.count(3), 2);
        is("best(0)", x.best(0), NONE);
        is("line(0, NONE)", x.line(0, NONE), NONE);
        is("way(0, 0)", x.way(0, 0), NONE);
        is("enough()", x.enough(), NONE);
        is("tried(0)", x.tried(0), 0);
        is("type(97)", x.type('a'), 1);
    }

    private static void undo() {
        promise = 4;
        PrettyShapes x = typed("Hab");
        is("undo()", x.undo(), 2);
        is("fault()", x.fault(), 2);
        is("type(99)", x.type('c'), 3);
        best("Hac", x, 1, 4, 4, 0, 0);
        is("undo()", x.undo(), 2);
        is("undo()", x.undo(), 1);
        is("undo()", x.undo(), 0);
        is("undo() of nothing", x.undo(), NOT);
        is("fault()", x.fault(), NONE);
    }

    private static void fault() {
        promise = 5;
        String[] texts = {"", "a", "i", "j", "`", "A", "H", "Ha", "Hab", "Habc", "N", "N0a", "Na", "N:a", "N9", "N1a", "N99a",
            "F", "Fa", "FFFa", "Vab", "VaVb", "Cab", "C", "1", "aa", "HNa", "HaN5b ", "h\0", "CaCbCcCdCeCfg",
            "CaCbCcCdCeCfCgh", "HCaCbCcCdCeCfgC", "CCCCCCC"};
        int[] due = {NONE, NONE, NONE, 0, 0, 0, 1, 2, NONE, 3, 1, 1, 1, 1, 2, NONE, 2,
            1, NONE, NONE, NONE, 4, NONE, 1, 0, 1, 2, 5, 1, NONE,
            12, 14, 6};
        for (int i = 0; i < texts.length; i++) is("fault() of " + texts[i], typed(texts[i]).fault(), due[i]);
        is("fault() of 40 F", typed("F".repeat(40)).fault(), 40);
        is("fault() of 39 F and a", typed("F".repeat(39) + "a").fault(), NONE);
        PrettyShapes x = typed("Habc");
        is("PARTS with a FAULT", x.count(1), 0);
        is("CHOICES with a FAULT", typed("Cabc").count(2), 0);
        is("bytes with a FAULT", x.count(0), 4);
        is("best(0) with a FAULT", x.best(0), NONE);
    }

    private static void width() {
        promise = 6;
        PrettyShapes x = typed("CHabVab");
        is("width(0)", x.width(0), BAD);
        is("width(100)", x.width(100), BAD);
        is("width(-5)", x.width(-5), BAD);
        is("count(3)", x.count(3), 20);
        is("width(1)", x.width(1), 20);
        is("best(4)", x.best(4), 1);
        is("width(99)", x.width(99), 1);
        is("best(4)", x.best(4), 0);
        is("width(99)", x.width(99), 99);
    }

    private static void read() {
        promise = 7;
        PrettyShapes x = new PrettyShapes();
        is("read(-1)", x.read(-1), BAD);
        is("read(4)", x.read(4), BAD);
        is("count(8)", x.count(8), 0);
        is("read(0) of a LOST one", x.read(0), NULL);
        is("count(8)", x.count(8), 1);
        x.sheet(0, 0, 3);
        x.put(0, 0, 0, 'H');
        x.put(0, 0, 1, 'a');
        x.put(0, 0, 2, 'b');
        is("read(0)", x.read(0), 3);
        best("Hab", x, 1, 3, 3, 0, 0);
        x.sheet(2, 1, 0);
        is("read(2), no items", x.read(2), 0);
        x.sheet(3, 0, 60);
        is("read(3), as many as may", x.read(3), 37);
        is("count(0)", x.count(0), 40);
        is("read(3), full", x.read(3), 0);
        is("count(8), no FINDING", x.count(8), 1);
        readUpToNoByte();
    }

    private static void readUpToNoByte() {
        int[][] noBytes = {{0, -1}, {0, -128}, {0, 200}, {1, -1}, {1, 256}, {1, 32767}, {2, -1}, {2, 256}, {2, 256 + 'c'},
            {2, Integer.MIN_VALUE}, {2, Integer.MAX_VALUE}};
        for (int[] form : noBytes) {
            PrettyShapes x = new PrettyShapes();
            String told = "FORM " + form[0] + ", item " + form[1] + ": ";
            x.sheet(1, form[0], 4);
            x.put(1, form[0], 0, form[1]);
            is(told + "read, the first", x.read(1), 0);
            is(told + "count(0)", x.count(0), 0);
            x.put(1, form[0], 0, 'V');
            x.put(1, form[0], 1, 'c');
            x.put(1, form[0], 2, form[1]);
            x.put(1, form[0], 3, 'd');
            is(told + "read, the third", x.read(1), 2);
            is(told + "count(0)", x.count(0), 2);
            is(told + "type(d)", x.type('d'), 3);
            best(told + "Vcd", x, 2, 4, 4, 0, 0);
            x.put(1, form[0], 2, 'e');
            is(told + "read, all", x.read(1), 4);
            is(told + "count(0)", x.count(0), 7);
        }
        for (int form = 1; form <= 2; form++) {
            PrettyShapes x = new PrettyShapes();
            x.sheet(0, form, 2);
            x.put(0, form, 0, 'a');
            x.put(0, form, 1, 255);
            is("read, 255 is a byte", x.read(0), 2);
            is("its fault", x.fault(), 1);
        }
    }

    private static void part() {
        promise = 8;
        PrettyShapes x = typed("HN3FaCVabHab");
        int[][] due = {{0, 12, 2, NONE}, {1, 4, 1, 0}, {3, 2, 1, 1}, {4, 1, 1, 2}, {5, 7, 2, 0}, {6, 3, 1, 4}, {7, 1, 1, 5},
            {8, 1, 1, 5}, {9, 3, 1, 4}, {10, 1, 1, 8}, {11, 1, 1, 8}};
        is("count(1)", x.count(1), due.length);
        for (int p = 0; p < due.length; p++)
            for (int w = 0; w < 4; w++) is("part(" + p + ", " + w + ")", x.part(p, w), due[p][w]);
        is("part(11, 0)", x.part(11, 0), BAD);
        is("part(-1, 0)", x.part(-1, 0), BAD);
        is("part(0, 4)", x.part(0, 4), BAD);
        is("part(0, -1)", x.part(0, -1), BAD);
        is("part of none", new PrettyShapes().part(0, 0), BAD);
        is("part with a FAULT", typed("ab").part(0, 0), BAD);
        x.width(6);
        is("part(8, 2) for 6", x.part(8, 2), 1);
        is("part(0, 2) for 6", x.part(0, 2), 1);
        x.width(2);
        is("part(8, 2) for 2", x.part(8, 2), 0);
        is("part(5, 2) for 2", x.part(5, 2), 1);
        is("part(0, 2) for 2", x.part(0, 2), 0);
    }

    private static void frontier() {
        promise = 9;
        PrettyShapes x = typed("CHabVab");
        shape("CHabVab", x, 0, 0, 1, 3, 3, 0);
        shape("CHabVab", x, 0, 1, 2, 2, 2, 1);
        shape("CHabVab", x, 0, 2, NONE, NONE, NONE, NONE);
        shape("CHabVab", x, 4, 0, 2, 2, 2, 0);
        is("frontier(0, 63, 0)", x.frontier(0, 63, 0), NONE);
        is("frontier(0, 64, 0)", x.frontier(0, 64, 0), BAD);
        is("frontier(0, -1, 0)", x.frontier(0, -1, 0), BAD);
        is("frontier(0, 0, 4)", x.frontier(0, 0, 4), BAD);
        is("frontier(0, 0, -1)", x.frontier(0, 0, -1), BAD);
        is("frontier(7, 0, 0)", x.frontier(7, 0, 0), BAD);
        is("frontier(-1, 0, 0)", x.frontier(-1, 0, 0), BAD);
        is("frontier of none", new PrettyShapes().frontier(0, 0, 0), BAD);
        shape("the first of like ones", typed("Caa"), 0, 0, 1, 1, 1, 0);
        PrettyShapes better = typed("CbCaa");
        shape("a BETTER one", better, 0, 0, 1, 1, 1, 1);
        shape("a BETTER one", better, 0, 1, NONE);
        shape("HANGING", typed("HVdaVbN2c"), 0, 0, 3, 6, 6, 0);
        shape("MOST of the first", typed("HVfab"), 0, 0, 2, 3, 6, 0);
        shape("UNDER", typed("VN9ia"), 0, 0, 2, 1, 18, 0);
        // Pairs: the first's in order, with each of the second's in order; what comes is behind all others.
        PrettyShapes pairs = typed("VCHabVabCHcdVcd");
        shape("pairs", pairs, 0, 0, 2, 7, 7, 0);
        shape("pairs", pairs, 0, 1, 3, 4, 4, 2);
        shape("pairs", pairs, 0, 2, NONE);
        shape("bits of a PART", pairs, 8, 1, 2, 4, 4, 2);
        shape("LAST counts", typed("CcVca"), 0, 0, 1, 3, 3, 0);
        shape("LAST counts", typed("CcVca"), 0, 1, 2, 1, 3, 1);
        shape("a CHOICE in a CHOICE", typed("CCHabVabi"), 0, 0, 1, 3, 3, 0);
        shape("a CHOICE in a CHOICE", typed("CCHabVabi"), 0, 1, 2, 2, 2, 2);
        PrettyShapes flat = typed("FCVabHab");
        shape("FLAT", flat, 0, 0, 1, 3, 3, 1);
        shape("FLAT", flat, 0, 1, NONE);
        shape("of what is OVER, for WIDTH", typed("CHabVab", 1), 0, 0, NONE);
        shape("of what is OVER, for WIDTH", typed("CHabVab", 1), 2, 0, 1, 1, 1, 0);
    }

    private static void tried() {
        promise = 10;
        PrettyShapes x = typed("CHabVab");
        is("tried(0)", x.tried(0), 8);
        is("tried(1)", x.tried(1), 0);
        x.width(2);
        is("tried(0) for 2", x.tried(0), 7);
        is("tried(1) for 2", x.tried(1), 1);
        x.width(1);
        is("tried(0) for 1", x.tried(0), 4);
        is("tried(1) for 1", x.tried(1), 2);
        is("tried(2)", x.tried(2), BAD);
        is("tried(-1)", x.tried(-1), BAD);
        is("tried(0) of CbCaa", typed("CbCaa").tried(0), 7);
        is("tried(1) of CbCaa", typed("CbCaa").tried(1), 2);
        is("tried(0) of FVab", typed("FVab").tried(0), 4);
        is("tried(1) of FVab", typed("FVab").tried(1), 1);
        is("tried(0) of none", new PrettyShapes().tried(0), 0);
        is("tried(0) of pairs", typed("VCHabVabCHcdVcd").tried(0), 20);
        is("tried(1) of pairs", typed("VCHabVabCHcdVcd").tried(1), 2);
    }

    private static void best() {
        promise = 11;
        best("CHabVab", typed("CHabVab"), 1, 3, 3, 0, 0);
        best("CHabVab for 3", typed("CHabVab", 3), 1, 3, 3, 0, 0);
        best("CHabVab for 2", typed("CHabVab", 2), 2, 2, 2, 1, 0);
        best("CHabVab for 1", typed("CHabVab", 1), 2, 2, 2, 1, 1);
        best("of like LINES the least MOST", typed("CVeaVcc"), 2, 3, 3, 1, 0);
        best("OVER: the least MOST", typed("CHabVaVab", 1), 3, 2, 2, 1, 1);
        best("OVER: of like MOST the fewest LINES", typed("CVeVaaVee", 4), 2, 5, 5, 1, 1);
        best("OVER: one WORD", typed("i", 8), 1, 9, 9, 0, 1);
        best("no LAYOUT", typed("FVab"), NONE, NONE, NONE, NONE, NONE);
        best("no DOC", new PrettyShapes(), NONE, NONE, NONE, NONE, NONE);
        best("CHOICES not in it are 0", typed("CaCbb"), 1, 1, 1, 0, 0);
        PrettyShapes x = typed("a");
        is("best(5)", x.best(5), BAD);
        is("best(-1)", x.best(-1), BAD);
        is("best(5) of none", new PrettyShapes().best(5), BAD);
    }

    private static void line() {
        promise = 12;
        page("HdVbN2c", typed("HdVbN2c"), "ddddbb", "      ccc");
        page("HVdaVbN2c", typed("HVdaVbN2c"), "dddd", "abb", "   ccc");
        page("N2VHaN1bc", typed("N2VHaN1bc"), "  a bb", "  ccc");
        page("CHabVab for 2", typed("CHabVab", 2), "a", "bb");
        page("OVER", typed("CHabVab", 1), "a", "bb");
        page("FCVabHab", typed("FCVabHab"), "abb");
        page("no LAYOUT", typed("FVab"));
        page("no DOC", new PrettyShapes());
        page("20 lines", typed("Va".repeat(19) + "i", 9), "a", "a", "a", "a", "a", "a", "a", "a", "a", "a", "a", "a", "a", "a", "a",
            "a", "a", "a", "a", "iiiiiiiii");
        PrettyShapes x = typed("N9".repeat(19) + "i");
        is("line(0, NONE) far out", x.line(0, NONE), 180);
        is("line(0, 170)", x.line(0, 170), 32);
        is("line(0, 171)", x.line(0, 171), 'i');
        is("line(0, 399)", x.line(0, 399), NONE);
        is("line(0, 400)", x.line(0, 400), BAD);
        is("line(0, -2)", x.line(0, -2), BAD);
        is("line(99, 0)", x.line(99, 0), NONE);
        is("line(100, 0)", x.line(100, 0), BAD);
        is("line(-1, 0)", x.line(-1, 0), BAD);
        is("line(100, 0) of none", new PrettyShapes().line(100, 0), BAD);
    }

    private static void way() {
        promise = 13;
        PrettyShapes x = typed("CCHabVabc", 1);
        int[][] due = {{1, 3, 3}, {1, 3, 3}, {2, 2, 2}, {1, 3, 3}};
        for (int w = 0; w < 64; w++)
            for (int what = 0; what < 3; what++) is("way(" + w + ", " + what + ")", x.way(w, what), due[w & 3][what]);
        is("way(64, 0)", x.way(64, 0), BAD);
        is("way(-1, 0)", x.way(-1, 0), BAD);
        is("way(0, 3)", x.way(0, 3), BAD);
        is("way(0, -1)", x.way(0, -1), BAD);
        is("way(0, 0) of none", new PrettyShapes().way(0, 0), NONE);
        PrettyShapes flat = typed("CFVabHab");
        is("FLAT does not allow it", flat.way(0, 0), NONE);
        is("FLAT is not in it", flat.way(1, 0), 1);
        is("FLAT around", typed("HaFCVabHab").way(0, 2), NONE);
        is("FLAT in the second", typed("VaFVab").way(0, 0), NONE);
        is("FLAT in the first", typed("VFVaba").way(0, 0), NONE);
        is("FLAT under PUSHED", typed("N1FVab").way(0, 0), NONE);
        is("FLAT around", typed("HaFCVabHab").way(1, 2), 4);
    }

    private static void haste() {
        promise = 14;
        PrettyShapes x = typed("CVdcHab");
        int[] wide = {0, 2, 4};
        for (int w = 0; w < 3; w++) is("haste(" + w + ") of CVdcHab", x.haste(w), wide[w]);
        PrettyShapes y = typed("CCdab", 2);
        int[] narrow = {2, 1, 1};
        for (int w = 0; w < 3; w++) is("haste(" + w + ") of CCdab for 2", y.haste(w), narrow[w]);
        y.width(4);
        is("haste(0) of CCdab for 4", y.haste(0), 0);
        is("haste(2) of CCdab for 4", y.haste(2), 4);
        y.width(1);
        is("haste(0) of CCdab for 1", y.haste(0), 2);
        is("haste(0) of CdCbi for 3", typed("CdCbi", 3).haste(0), 1);
        is("haste(0) of CdCib for 3", typed("CdCib", 3).haste(0), 3);
        is("haste(0) of HCdaCdb for 6", typed("HCdaCdb", 6).haste(0), 2);
        is("haste(2) of HCdaCdb for 6", typed("HCdaCdb", 6).haste(2), 6);
        is("haste(0) of CFVabHab", typed("CFVabHab").haste(0), 1);
        for (int w = 0; w < 3; w++) is("haste(" + w + ") too wide", typed("CHabVab", 1).haste(w), NONE);
        is("haste(0) of none", new PrettyShapes().haste(0), NONE);
        is("haste(0) of FVab", typed("FVab").haste(0), NONE);
        is("haste(3)", x.haste(3), BAD);
        is("haste(-1)", x.haste(-1), BAD);
    }

    private static void enough() {
        promise = 15;
        is("enough() of CHabVab", typed("CHabVab").enough(), 2);
        is("enough() of a", typed("a", 99).enough(), 1);
        is("enough() of N9i", typed("N9i", 3).enough(), 18);
        is("enough() of 99 columns", typed("N9".repeat(10) + "i").enough(), 99);
        is("enough() of 100 columns", typed("N1" + "N9".repeat(10) + "i").enough(), NONE);
        is("enough() of FVab", typed("FVab").enough(), NONE);
        is("enough() of none", new PrettyShapes().enough(), NONE);
    }

    private static void shrinks() {
        promise = 16;
        PrettyShapes x = typed("VCHabVabCHcdVcd", 1);
        is("shrinks(NONE)", x.shrinks(NONE), 1);
        is("shrinks(0)", x.shrinks(0), 7);
        is("shrinks(1)", x.shrinks(1), NONE);
        is("shrinks(39)", x.shrinks(39), NONE);
        is("shrinks(40)", x.shrinks(40), BAD);
        is("shrinks(-2)", x.shrinks(-2), BAD);
        PrettyShapes y = typed("CHaHbcCVaHbcVaVbc");
        is("shrinks(NONE) of three", y.shrinks(NONE), 2);
        is("shrinks(0) of three", y.shrinks(0), 5);
        is("shrinks(1) of three", y.shrinks(1), 6);
        is("shrinks(NONE), one way", typed("Vab").shrinks(NONE), 0);
        is("shrinks(0), one way", typed("Vab").shrinks(0), NONE);
        is("shrinks(NONE) of none", new PrettyShapes().shrinks(NONE), 0);
        is("shrinks(NONE) of FVab", typed("FVab").shrinks(NONE), 0);
        String wide = "N9".repeat(10);
        is("shrinks at 99", typed(wide + "CVghHbg").shrinks(0), 99);
        is("shrinks above 99", typed(wide + "CVghHcg").shrinks(NONE), 0);
    }

    private static void spare() {
        promise = 17;
        is("spare() of CHabVab", typed("CHabVab").spare(), 1);
        is("spare() of CHabVab for 2", typed("CHabVab", 2).spare(), 0);
        is("spare() of CHabVab for 1", typed("CHabVab", 1).spare(), 0);
        is("spare(), OVER, as many LINES", typed("Cba", 1).spare(), 0);
        is("spare(), OVER as it is", typed("Ccb", 1).spare(), 1);
        is("spare() of CVabHab", typed("CVabHab").spare(), 0);
        is("spare() of two", typed("VCHabVabCVcdHcd").spare(), 1);
        is("spare() of one that is not in it", typed("CaCVabb").spare(), 3);
        is("spare(), FLAT bars the first", typed("CFVaba").spare(), 0);
        is("spare() of none", new PrettyShapes().spare(), 0);
        is("spare() of FVab", typed("HCabFVab").spare(), 0);
    }

    private static void sheet() {
        promise = 18;
        PrettyShapes x = new PrettyShapes();
        is("sheet(-1, 0, 1)", x.sheet(-1, 0, 1), BAD);
        is("sheet(4, 0, 1)", x.sheet(4, 0, 1), BAD);
        is("sheet(0, -1, 1)", x.sheet(0, -1, 1), BAD);
        is("sheet(0, 3, 1)", x.sheet(0, 3, 1), BAD);
        is("sheet(0, 0, 61)", x.sheet(0, 0, 61), BAD);
        is("sheet(0, 3, -1)", x.sheet(0, 3, -1), BAD);
        is("count(8)", x.count(8), 0);
        is("sheet(0, 0, -1)", x.sheet(0, 0, -1), SIZE);
        is("count(8)", x.count(8), 5);
        is("lose(0)", x.lose(0), NULL);
        is("sheet(0, 2, 60)", x.sheet(0, 2, 60), 60);
        is("get(0, 2, 59)", x.get(0, 2, 59), 0);
        x.put(0, 2, 0, 7);
        is("sheet(0, 2, least)", x.sheet(0, 2, LEAST), SIZE);
        is("get(0, 2, 0)", x.get(0, 2, 0), 7);
        is("sheet(0, 2, 2)", x.sheet(0, 2, 2), 2);
        is("get(0, 2, 0), new", x.get(0, 2, 0), 0);
        is("sheet(3, 1, 0)", x.sheet(3, 1, 0), 0);
        is("lose(3)", x.lose(3), 0);
    }

    private static void lose() {
        promise = 19;
        PrettyShapes x = new PrettyShapes();
        x.sheet(1, 1, 5);
        is("lose(-1)", x.lose(-1), BAD);
        is("lose(4)", x.lose(4), BAD);
        is("lose(1)", x.lose(1), 5);
        is("lose(1) again", x.lose(1), NULL);
        is("count(8)", x.count(8), 1);
        is("get(1, 1, 0)", x.get(1, 1, 0), LEAST);
    }

    private static void put() {
        promise = 20;
        PrettyShapes x = new PrettyShapes();
        is("put of a LOST one", x.put(0, 0, 0, 1), NULL);
        x.sheet(0, 0, 2);
        x.sheet(1, 1, 2);
        x.sheet(2, 2, 2);
        is("put(4, 0, 0, 1)", x.put(4, 0, 0, 1), BAD);
        is("put(-1, 0, 0, 1)", x.put(-1, 0, 0, 1), BAD);
        is("put(0, 3, 0, 1)", x.put(0, 3, 0, 1), BAD);
        is("put(3, -1, 0, 1)", x.put(3, -1, 0, 1), BAD);
        is("count(8)", x.count(8), 1);
        is("put(0, 1, 9, 1)", x.put(0, 1, 9, 1), CAST);
        is("count(8)", x.count(8), 3);
        is("put(0, 0, 2, 1)", x.put(0, 0, 2, 1), INDEX);
        is("put(0, 0, -1, 1)", x.put(0, 0, -1, 1), INDEX);
        is("count(8)", x.count(8), 2);
        is("put(0, 0, 1, 200)", x.put(0, 0, 1, 200), 1);
        is("get(0, 0, 1)", x.get(0, 0, 1), -56);
        is("put(1, 1, 1, 98304)", x.put(1, 1, 1, 98304), 1);
        is("get(1, 1, 1)", x.get(1, 1, 1), -32768);
        is("put(2, 2, 0, least)", x.put(2, 2, 0, LEAST + 1), 1);
        is("get(2, 2, 0)", x.get(2, 2, 0), LEAST + 1);
        is("get(2, 2, 1)", x.get(2, 2, 1), 0);
    }

    private static void get() {
        promise = 21;
        PrettyShapes x = new PrettyShapes();
        is("get(4, 0, 0)", x.get(4, 0, 0), LEAST);
        is("get(-1, 0, 0)", x.get(-1, 0, 0), LEAST);
        is("get(0, 3, 0)", x.get(0, 3, 0), LEAST);
        is("get(0, -1, 0)", x.get(0, -1, 0), LEAST);
        is("count(8)", x.count(8), 0);
        is("get of a LOST one", x.get(0, 0, 0), LEAST);
        is("count(8)", x.count(8), 1);
        x.sheet(0, 2, 1);
        is("get(0, 0, 5)", x.get(0, 0, 5), LEAST);
        is("count(8)", x.count(8), 3);
        is("get(0, 2, 1)", x.get(0, 2, 1), LEAST);
        is("count(8)", x.count(8), 2);
        is("get(0, 2, -1)", x.get(0, 2, -1), LEAST);
        is("get(0, 2, 0)", x.get(0, 2, 0), 0);
        is("count(8) stays", x.count(8), 2);
    }

    private static void copy() {
        promise = 22;
        PrettyShapes x = new PrettyShapes();
        x.sheet(0, 0, 5);
        x.sheet(1, 0, 3);
        x.sheet(2, 1, 5);
        for (int i = 0; i < 5; i++) x.put(0, 0, i, i + 1);
        is("copy(-1, ..)", x.copy(-1, 0, 3, 0, 0), BAD);
        is("copy to 4", x.copy(3, 0, 4, 0, 0), BAD);
        is("count(8)", x.count(8), 0);
        is("copy of a LOST one", x.copy(3, -1, 2, 0, 1), NULL);
        is("copy to a LOST one", x.copy(2, -1, 3, 0, 1), NULL);
        is("copy of unlike FORMS", x.copy(0, -1, 2, 0, 99), STORE);
        is("count(8)", x.count(8), 4);
        int[][] wrong = {{-1, 0, 1}, {0, -1, 1}, {0, 0, -1}, {0, 0, 4}, {4, 0, 2}, {0, 2, 2}, {6, 0, 0}, {0, 4, 0},
            {FAR, 0, 1}, {1, 0, FAR}, {0, FAR, FAR}, {LEAST, LEAST, LEAST}};
        for (int[] w : wrong) is("copy(0, " + w[0] + ", 1, " + w[1] + ", " + w[2] + ")", x.copy(0, w[0], 1, w[1], w[2]), INDEX);
        is("count(8)", x.count(8), 2);
        is("nothing came", x.get(1, 0, 0), 0);
        is("copy of none at the end", x.copy(0, 5, 1, 3, 0), 1);
        is("copy(0, 2, 1, 0, 3)", x.copy(0, 2, 1, 0, 3), 1);
        for (int i = 0; i < 3; i++) is("get(1, 0, " + i + ")", x.get(1, 0, i), i + 3);
        is("copy to itself", x.copy(0, 0, 0, 1, 4), 1);
        int[] due = {1, 1, 2, 3, 4};
        for (int i = 0; i < 5; i++) is("get(0, 0, " + i + ")", x.get(0, 0, i), due[i]);
        is("copy back", x.copy(0, 1, 0, 0, 4), 1);
        int[] back = {1, 2, 3, 4, 4};
        for (int i = 0; i < 5; i++) is("get(0, 0, " + i + ")", x.get(0, 0, i), back[i]);
    }

    private static void write() {
        promise = 23;
        PrettyShapes x = typed("HdVbN2c");
        is("write(-1, 0)", x.write(-1, 0), BAD);
        is("write(100, 0)", x.write(100, 0), BAD);
        is("write(0, 4)", x.write(0, 4), BAD);
        is("write(0, -1)", x.write(0, -1), BAD);
        is("count(8)", x.count(8), 0);
        is("write to a LOST one", x.write(0, 0), NULL);
        is("count(8)", x.count(8), 1);
        x.sheet(0, 0, 60);
        x.put(0, 0, 9, 5);
        is("write(1, 0)", x.write(1, 0), 9);
        for (int i = 0; i < 9; i++) is("get(0, 0, " + i + ")", x.get(0, 0, i), i < 6 ? 32 : 'c');
        is("behind it", x.get(0, 0, 9), 5);
        x.sheet(1, 2, 5);
        is("write(0, 1)", x.write(0, 1), 5);
        is("get(1, 2, 4)", x.get(1, 2, 4), 'b');
        is("no such line", x.write(2, 1), 0);
        is("write(99, 1)", x.write(99, 1), 0);
        x.sheet(2, 1, 0);
        is("no items", x.write(0, 2), 0);
        x.wipe();
        is("no DOC", x.write(0, 1), 0);
    }

    private static void count() {
        promise = 24;
        PrettyShapes x = typed("VCHabVabCHcdVcd", 3);
        int[] due = {15, 15, 2, 3, 0, 12, 2, 3, 0};
        for (int w = 0; w < due.length; w++) is("count(" + w + ") for 3", x.count(w), due[w]);
        x.width(20);
        int[] wide = {15, 15, 2, 20, 2, 20, 2, 2, 0};
        for (int w = 0; w < wide.length; w++) is("count(" + w + ") for 20", x.count(w), wide[w]);
        is("count(9)", x.count(9), BAD);
        is("count(-1)", x.count(-1), BAD);
        is("count(7) of FVab", typed("FVab").count(7), NONE);
        x.lose(0);
        is("count(8)", x.count(8), 1);
        x.sheet(0, 0, 1);
        is("count(8) stays", x.count(8), 1);
    }

    private static void digest() {
        promise = 25;
        long h = 17;
        int[] first = {0, 0, 0, 20, 0, 0, 0, NONE, NONE};
        for (int v : first) h = 31 * h + v;
        for (int i = 0; i < 32; i++) h = 31 * h + BAD;
        h = 31 * (31 * h);
        for (int i = 0; i < 5 + 30 + 192 + 3 + 1; i++) h = 31 * h + NONE;
        int[] last = {0, NONE, NONE, 0};
        for (int v : last) h = 31 * h + v;
        is("digest() of none", new PrettyShapes().digest(), h);
        String[] texts = {"a", "CHabVab", "VCHabVabCHcdVcd", "HdVbN2c", "FVab", "Habc", "CaCbCcCdCeCfg"};
        for (String text : texts)
            for (int v = 1; v < 30; v += 4) is("digest() of " + text + " for " + v, typed(text, v).digest(), told(typed(text, v)));
        PrettyShapes x = typed("a");
        long before = x.digest();
        x.lose(0);
        is("count() 8 is not in it", x.digest(), before);
    }

    private static long told(PrettyShapes x) {
        long h = 17;
        for (int w = 0; w <= 7; w++) h = 31 * h + x.count(w);
        h = 31 * h + x.fault();
        for (int p = 0; p < x.count(1); p++) {
            for (int w = 0; w <= 3; w++) h = 31 * h + x.part(p, w);
            for (int i = 0; i <= 1; i++) for (int w = 0; w <= 3; w++) h = 31 * h + x.frontier(p, i, w);
        }
        for (int i = 0; i <= 7; i++) for (int w = 0; w <= 3; w++) h = 31 * h + x.frontier(0, i, w);
        for (int w = 0; w <= 1; w++) h = 31 * h + x.tried(w);
        for (int w = 0; w <= 4; w++) h = 31 * h + x.best(w);
        int[] columns = {NONE, 0, 5};
        for (int l = 0; l <= 9; l++) for (int c : columns) h = 31 * h + x.line(l, c);
        for (int w = 0; w <= 63; w++) for (int what = 0; what <= 2; what++) h = 31 * h + x.way(w, what);
        for (int w = 0; w <= 2; w++) h = 31 * h + x.haste(w);
        h = 31 * h + x.enough();
        for (int i = NONE; i <= 1; i++) h = 31 * h + x.shrinks(i);
        return 31 * h + x.spare();
    }
}
