/**
 * Each sentence of the document that names a boundary case of SHEETS, of FINDINGS, and of what goes between SHEETS and the
 * text: a test of its own, under the promise by which it can be seen. Refused calls are in RefusalsTest.
 */
public final class SheetBoundsTest extends Check {
    private static final int[] LOWEST = {-128, -32768, LEAST};
    private static final int[] GREATEST = {127, 32767, FAR};

    public static void main(String[] args) {
        readEnds();
        readItems();
        sheetSizes();
        sheetAnew();
        lose();
        put();
        get();
        copyPlaces();
        copyItself();
        write();
        findings();
        finish("SheetBoundsTest");
    }

    /** An object whose SHEET s is a row of these items. */
    private static PrettyShapes row(int s, int form, int... items) {
        PrettyShapes x = new PrettyShapes();
        fill(x, s, form, items);
        return x;
    }

    private static void fill(PrettyShapes x, int s, int form, int... items) {
        x.sheet(s, form, items.length);
        for (int i = 0; i < items.length; i++) x.put(s, form, i, items[i]);
    }

    private static void items(String what, PrettyShapes x, int s, int form, int... due) {
        for (int i = 0; i < due.length; i++) is(what + ", get(" + s + ", " + form + ", " + i + ")", x.get(s, form, i), due[i]);
        is(what + ", lose(" + s + ")", x.lose(s), due.length);
    }

    private static int[] many(int n, int item) {
        int[] all = new int[n];
        java.util.Arrays.fill(all, item);
        return all;
    }

    private static void readEnds() {
        says(7, "Bytes from a SHEET come behind the text: how many");
        for (int s = 0; s < 4; s++) {
            for (int form = 0; form < 3; form++) {
                PrettyShapes x = row(s, form, 'a', 'b');
                x.type('H');
                is("read(" + s + ") of FORM " + form, x.read(s), 2);
                is("count(0)", x.count(0), 3);
                best("Hab", x, 1, 3, 3, 0, 0);
                items("the SHEET stays", x, s, form, 'a', 'b');
            }
        }
        says(7, "its items, as many as may: of none, none");
        PrettyShapes none = row(0, 0);
        none.type('a');
        is("read(0)", none.read(0), 0);
        is("count(0)", none.count(0), 1);
        is("count(8)", none.count(8), 0);
        says(7, "its items, as many as may: up to 40 bytes");
        int[] before = {0, 1, 38, 39, 40};
        int[] sizes = {1, 2, 39, 40, 41, 60};
        for (int had : before) {
            for (int n : sizes) {
                PrettyShapes x = row(3, 2, many(n, 'F'));
                for (int i = 0; i < had; i++) x.type('F');
                int room = Math.min(n, 40 - had);
                is("read(3) of " + n + " behind " + had, x.read(3), room);
                is("count(0)", x.count(0), had + room);
                is("count(8), no FINDING", x.count(8), 0);
                is("fault()", x.fault(), had + room);
                is("type(97)", x.type('a'), had + room < 40 ? had + room + 1 : FULL);
            }
        }
    }

    private static void readItems() {
        says(7, "Bytes (0 to 255) come, up to the first item that is none");
        int[][] bytes = {{0, 127}, {0, 255}, {0, 255}};
        int[][] noBytes = {{-1, -128}, {-1, 256, -32768, 32767}, {-1, 256, 'a' + 256, LEAST, FAR}};
        for (int form = 0; form < 3; form++) {
            for (int v : bytes[form]) is("read of " + v + " in FORM " + form, row(1, form, 'a', v, 'b').read(1), 3);
            for (int v : noBytes[form]) {
                String told = v + " in FORM " + form;
                is("read, the first is " + told, row(1, form, v, 'a').read(1), 0);
                is("read, the second is " + told, row(1, form, 'a', v, 'b').read(1), 1);
                is("read, the last is " + told, row(1, form, 'a', 'b', v).read(1), 2);
                PrettyShapes x = row(1, form, 'a', v, 'b');
                x.read(1);
                is("count(0), the second is " + told, x.count(0), 1);
                is("fault(), the second is " + told, x.fault(), NONE);
                is("count(8), no FINDING", x.count(8), 0);
                items("the SHEET stays", x, 1, form, 'a', v, 'b');
            }
        }
        says(7, "a byte with which the text cannot go on comes too: it is a FAULT");
        PrettyShapes x = row(0, 1, 'z', 0, 255);
        is("read(0)", x.read(0), 3);
        is("fault()", x.fault(), 0);
        is("read(0) again", x.read(0), 3);
        is("count(0)", x.count(0), 6);
    }

    private static void sheetSizes() {
        says(18, "a row of a FORM: 0 bytes, 1 shorts, 2 ints, of 0 to 60 items (0 at first): n");
        for (int s = 0; s < 4; s++) {
            for (int form = 0; form < 3; form++) {
                PrettyShapes x = new PrettyShapes();
                int[] sizes = {0, 1, 59, 60};
                for (int n : sizes) {
                    is("sheet(" + s + ", " + form + ", " + n + ")", x.sheet(s, form, n), n);
                    items("new", x, s, form, many(n, 0));
                }
                is("sheet(.., 61)", x.sheet(s, form, 61), BAD);
                is("sheet(.., FAR)", x.sheet(s, form, FAR), BAD);
                is("count(8)", x.count(8), 0);
                is("sheet(.., -1)", x.sheet(s, form, -1), SIZE);
                is("count(8)", x.count(8), 5);
                is("sheet(.., least)", x.sheet(s, form, LEAST), SIZE);
                is("still LOST", x.lose(s), NULL);
            }
        }
        says(18, "BAD: SHEET, FORM, above 60; SIZE: the first that fits");
        PrettyShapes x = new PrettyShapes();
        for (int s : outside(0, 3)) is("sheet(" + s + ", 0, -1)", x.sheet(s, 0, -1), BAD);
        for (int form : outside(0, 2)) is("sheet(0, " + form + ", -1)", x.sheet(0, form, -1), BAD);
        is("count(8)", x.count(8), 0);
    }

    private static void sheetAnew() {
        says(18, "A SHEET is a new row");
        PrettyShapes x = row(2, 2, 5, 6, 7);
        is("as many items", x.sheet(2, 2, 3), 3);
        items("as many items", x, 2, 2, 0, 0, 0);
        fill(x, 2, 2, 5, 6, 7);
        x.sheet(2, 2, 1);
        x.sheet(2, 2, 3);
        items("fewer, then more", x, 2, 2, 0, 0, 0);
        fill(x, 2, 2, 5, 6, 7);
        x.lose(2);
        x.sheet(2, 2, 3);
        items("LOST and made anew", x, 2, 2, 0, 0, 0);
        fill(x, 2, 2, 5, 6, 7);
        is("another FORM", x.sheet(2, 0, 2), 2);
        items("another FORM", x, 2, 0, 0, 0);
        says(18, "the other SHEETS stay");
        PrettyShapes y = row(0, 0, 1);
        fill(y, 1, 1, 2);
        y.sheet(0, 0, 4);
        items("the other one", y, 1, 1, 2);
        says(18, "refused, it stays as it was");
        PrettyShapes z = row(3, 1, 4, 5);
        z.sheet(3, 2, 61);
        z.sheet(3, 3, 1);
        z.sheet(3, 2, -1);
        items("the old row", z, 3, 1, 4, 5);
    }

    private static void lose() {
        says(19, "It is LOST: how many items it had");
        int[] sizes = {0, 1, 60};
        for (int s = 0; s < 4; s++) {
            for (int n : sizes) {
                PrettyShapes x = row(s, 1, many(n, 3));
                is("lose(" + s + ") of " + n, x.lose(s), n);
                is("count(8), no FINDING", x.count(8), 0);
                is("lose(" + s + ") again", x.lose(s), NULL);
                is("count(8)", x.count(8), 1);
                is("read of it", x.read(s), NULL);
                is("put of it", x.put(s, 1, 0, 1), NULL);
                is("write to it", x.write(0, s), NULL);
                is("copy of it", x.copy(s, 0, s, 0, 0), NULL);
            }
        }
        says(19, "the other SHEETS stay");
        PrettyShapes y = row(0, 0, 1);
        fill(y, 1, 0, 2);
        y.lose(0);
        items("the other one", y, 1, 0, 2);
    }

    private static void put() {
        says(20, "becomes v (the lowest bits that it has): 1");
        int[] told = {0, 1, -1, 127, 128, 255, 256, -128, -129, 32767, 32768, 65535, 65536, -32768, -32769, FAR, LEAST, LEAST + 1};
        for (int form = 0; form < 3; form++) {
            for (int v : told) {
                PrettyShapes x = row(0, form, 0);
                is("put " + v + " in FORM " + form, x.put(0, form, 0, v), 1);
                is("then get", x.get(0, form, 0), form == 0 ? (byte) v : form == 1 ? (short) v : v);
                is("count(8)", x.count(8), 0);
            }
            is("one above the greatest is the least", row(0, form, GREATEST[form] + 1).get(0, form, 0), LOWEST[form]);
            is("one below the least is the greatest", row(0, form, LOWEST[form] - 1).get(0, form, 0), GREATEST[form]);
        }
        says(20, "Item i");
        PrettyShapes x = row(0, 2, 1, 2, 3);
        x.put(0, 2, 0, 7);
        x.put(0, 2, 2, 9);
        is("put(0, 2, 3, 8)", x.put(0, 2, 3, 8), INDEX);
        is("put(0, 2, -1, 8)", x.put(0, 2, -1, 8), INDEX);
        items("the first and the last", x, 0, 2, 7, 2, 9);
        says(20, "INDEX: there is no such item");
        is("of none", row(0, 2).put(0, 2, 0, 1), INDEX);
        is("the 60th", row(0, 2, many(60, 0)).put(0, 2, 59, 1), 1);
        is("the 61st", row(0, 2, many(60, 0)).put(0, 2, 60, 1), INDEX);
        is("behind the last, where a longer row was", shortened().put(0, 2, 1, 1), INDEX);
        says(20, "BAD; NULL; CAST; INDEX: the first that fits");
        PrettyShapes y = row(0, 0, 1);
        is("put(4, 3, 9, 1)", y.put(4, 3, 9, 1), BAD);
        is("put(1, 3, 9, 1)", y.put(1, 3, 9, 1), BAD);
        is("put(1, 1, 9, 1)", y.put(1, 1, 9, 1), NULL);
        is("put(0, 1, 9, 1)", y.put(0, 1, 9, 1), CAST);
        is("put(0, 0, 9, 1)", y.put(0, 0, 9, 1), INDEX);
        is("put(0, 0, 0, 1)", y.put(0, 0, 0, 1), 1);
    }

    private static PrettyShapes shortened() {
        PrettyShapes x = row(0, 2, 1, 2, 3);
        x.sheet(0, 2, 1);
        return x;
    }

    private static void get() {
        says(21, "BAD: the least int; so are NULL, CAST, INDEX (count() 8 tells)");
        PrettyShapes x = row(0, 0, 1);
        is("get(4, 3, 9), BAD", x.get(4, 3, 9), LEAST);
        is("count(8)", x.count(8), 0);
        is("get(1, 3, 9), BAD", x.get(1, 3, 9), LEAST);
        is("count(8)", x.count(8), 0);
        is("get(1, 1, 9), NULL", x.get(1, 1, 9), LEAST);
        is("count(8)", x.count(8), 1);
        is("get(0, 1, 9), CAST", x.get(0, 1, 9), LEAST);
        is("count(8)", x.count(8), 3);
        is("get(0, 0, 9), INDEX", x.get(0, 0, 9), LEAST);
        is("count(8)", x.count(8), 2);
        is("get(0, 0, 0)", x.get(0, 0, 0), 1);
        is("count(8) stays", x.count(8), 2);
        says(21, "an item may be the least int");
        PrettyShapes y = row(0, 2, LEAST);
        is("get(0, 2, 0)", y.get(0, 2, 0), LEAST);
        is("count(8)", y.count(8), 0);
        says(21, "INDEX: there is no such item");
        int[] sizes = {0, 1, 60};
        for (int n : sizes) {
            for (int form = 0; form < 3; form++) {
                PrettyShapes z = row(3, form, many(n, 5));
                if (n > 0) is("get(3, .., " + (n - 1) + ") of " + n, z.get(3, form, n - 1), 5);
                is("count(8)", z.count(8), 0);
                for (int i : outside(0, n - 1)) is("get(3, .., " + i + ") of " + n, z.get(3, form, i), LEAST);
                is("count(8)", z.count(8), 2);
            }
        }
        is("behind the last, where a longer row was", shortened().get(0, 2, 1), LEAST);
    }

    private static void copyPlaces() {
        says(22, "n items of SHEET s, from i on, come to SHEET t, from j on: 1");
        for (int form = 0; form < 3; form++) {
            PrettyShapes x = row(0, form, 1, 2, 3, 4);
            fill(x, 3, form, 5, 6, 7);
            is("the last two to the first two", x.copy(0, 2, 3, 0, 2), 1);
            is("the first to the last", x.copy(0, 0, 3, 2, 1), 1);
            is("count(8)", x.count(8), 0);
            items("to", x, 3, form, 3, 4, 1);
            items("from", x, 0, form, 1, 2, 3, 4);
        }
        says(22, "all items, at most 60");
        PrettyShapes most = row(0, 1, many(60, 8));
        fill(most, 1, 1, many(60, 9));
        is("copy of 60", most.copy(0, 0, 1, 0, 60), 1);
        items("60", most, 1, 1, many(60, 8));
        says(22, "no items");
        PrettyShapes none = row(0, 0, 1, 2);
        fill(none, 1, 0);
        is("to a row of none", none.copy(0, 0, 1, 0, 0), 1);
        is("from a row of none", none.copy(1, 0, 0, 2, 0), 1);
        is("from the end", none.copy(0, 2, 0, 0, 0), 1);
        is("to the end", none.copy(0, 0, 0, 2, 0), 1);
        is("from behind the end", none.copy(0, 3, 0, 0, 0), INDEX);
        is("to behind the end", none.copy(0, 0, 0, 3, 0), INDEX);
        is("one from a row of none", none.copy(1, 0, 0, 0, 1), INDEX);
        is("one to a row of none", none.copy(0, 0, 1, 0, 1), INDEX);
        items("as it was", none, 0, 0, 1, 2);
        says(22, "BAD: the SHEETS; NULL: s, t; STORE; INDEX: the first that fits");
        PrettyShapes y = row(0, 0, 1);
        fill(y, 1, 1, 2);
        is("copy(4, -1, 2, 0, 9)", y.copy(4, -1, 2, 0, 9), BAD);
        is("copy(2, -1, 4, 0, 9)", y.copy(2, -1, 4, 0, 9), BAD);
        is("copy(2, -1, 0, 0, 9)", y.copy(2, -1, 0, 0, 9), NULL);
        is("copy(0, -1, 2, 0, 9)", y.copy(0, -1, 2, 0, 9), NULL);
        is("copy(0, -1, 1, 0, 9)", y.copy(0, -1, 1, 0, 9), STORE);
        is("copy(0, 0, 1, 0, 0), STORE of no items", y.copy(0, 0, 1, 0, 0), STORE);
        is("copy(0, -1, 0, 0, 1)", y.copy(0, -1, 0, 0, 1), INDEX);
        is("copy(0, 0, 0, 0, 1)", y.copy(0, 0, 0, 0, 1), 1);
    }

    private static void copyItself() {
        says(22, "(perhaps s, as they were)");
        int[][] from = {{0, 1, 4}, {1, 0, 4}, {0, 2, 3}, {2, 0, 3}, {0, 0, 5}, {0, 4, 1}, {4, 0, 1}};
        int[][] due = {{1, 1, 2, 3, 4}, {2, 3, 4, 5, 5}, {1, 2, 1, 2, 3}, {3, 4, 5, 4, 5}, {1, 2, 3, 4, 5}, {1, 2, 3, 4, 1}, {5, 2, 3, 4, 5}};
        for (int c = 0; c < from.length; c++) {
            for (int form = 0; form < 3; form++) {
                PrettyShapes x = row(1, form, 1, 2, 3, 4, 5);
                String told = "copy(1, " + from[c][0] + ", 1, " + from[c][1] + ", " + from[c][2] + ")";
                is(told, x.copy(1, from[c][0], 1, from[c][1], from[c][2]), 1);
                items(told, x, 1, form, due[c]);
            }
        }
    }

    private static void write() {
        says(23, "from item 0 on, as many as there are items, and columns: how many");
        for (int form = 0; form < 3; form++) {
            int[] sizes = {0, 1, 5, 6, 7, 60};
            for (int n : sizes) {
                PrettyShapes x = typed("HdVbN2c");
                fill(x, 2, form, many(n, 7));
                int came = Math.min(n, 6);
                is("write(0, 2) to " + n + " items", x.write(0, 2), came);
                int[] due = many(n, 7);
                for (int i = 0; i < came; i++) due[i] = "ddddbb".charAt(i);
                items("write(0, 2) to " + n + " items", x, 2, form, due);
            }
        }
        says(23, "as many as there are items: 60 at most");
        PrettyShapes far = typed("N9".repeat(7) + "a");
        fill(far, 0, 0, many(60, 7));
        is("write of 64 columns", far.write(0, 0), 60);
        items("blanks", far, 0, 0, many(60, 32));
        PrettyShapes just = typed("N9".repeat(5) + "N6i");
        fill(just, 0, 0, many(60, 7));
        is("write of 60 columns", just.write(0, 0), 60);
        is("the 60th", just.get(0, 0, 59), 'i');
        says(23, "a line (0 to 99) of SET: none, where there is no such line");
        PrettyShapes x = typed("Vab");
        fill(x, 0, 2, 7, 7);
        int[] beyond = {2, 3, 20, 99};
        for (int line : beyond) is("write(" + line + ", 0)", x.write(line, 0), 0);
        is("count(8)", x.count(8), 0);
        is("write(1, 0)", x.write(1, 0), 2);
        x.wipe();
        is("write(0, 0), no DOC", x.write(0, 0), 0);
        items("the last that came", x, 0, 2, 'b', 'b');
        PrettyShapes bar = typed("FVab");
        fill(bar, 0, 2, 7);
        is("write(0, 0), no LAYOUT", bar.write(0, 0), 0);
        items("as it was", bar, 0, 2, 7);
        PrettyShapes over = typed("CHabVab", 1);
        over.sheet(0, 0, 9);
        is("write(1, 0), OVER", over.write(1, 0), 2);
        says(23, "BAD; NULL: the first that fits");
        PrettyShapes y = typed("a");
        is("write(100, 0), LOST", y.write(100, 0), BAD);
        is("write(-1, 0), LOST", y.write(-1, 0), BAD);
        is("write(0, 4)", y.write(0, 4), BAD);
        is("count(8)", y.count(8), 0);
        is("write(0, 0), LOST", y.write(0, 0), NULL);
        is("write(99, 3), LOST", y.write(99, 3), NULL);
        is("count(8)", y.count(8), 1);
    }

    private static void findings() {
        says(24, "the number of the latest FINDING (0 before any)");
        PrettyShapes x = row(0, 0, 1);
        fill(x, 1, 1, 2);
        is("count(8) before any", x.count(8), 0);
        x.type(256);
        x.undo();
        x.width(0);
        x.part(0, 0);
        x.sheet(0, 0, 61);
        x.copy(0, 0, 4, 0, 0);
        is("count(8) behind BAD, NOT", x.count(8), 0);
        for (int i = 0; i < 41; i++) x.type('a');
        is("type(97), FULL", x.type('a'), FULL);
        is("count(8) behind FULL", x.count(8), 0);
        says(24, "FINDINGS (answers -10 less the number)");
        is("NULL", x.lose(2), -11);
        is("count(8)", x.count(8), 1);
        is("INDEX", x.put(0, 0, 1, 1), -12);
        is("count(8)", x.count(8), 2);
        is("CAST", x.put(0, 1, 0, 1), -13);
        is("count(8)", x.count(8), 3);
        is("STORE", x.copy(0, 0, 1, 0, 1), -14);
        is("count(8)", x.count(8), 4);
        is("SIZE", x.sheet(0, 0, -1), -15);
        is("count(8)", x.count(8), 5);
        says(24, "the latest FINDING stays, whatever goes well or is BAD");
        x.get(0, 0, 0);
        x.put(0, 0, 0, 2);
        x.copy(0, 0, 0, 0, 1);
        x.read(0);
        x.write(0, 0);
        x.sheet(2, 2, 2);
        x.lose(2);
        x.wipe();
        x.digest();
        x.count(9);
        is("count(8)", x.count(8), 5);
    }
}
