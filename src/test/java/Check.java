/** What the tests share: objects made ready, answers compared and counted. */
abstract class Check {
    static final int NONE = -1, BAD = -2, NOT = -3, FULL = -4;
    static final int NULL = -11, INDEX = -12, CAST = -13, STORE = -14, SIZE = -15;
    static final int LEAST = Integer.MIN_VALUE;
    static final int FAR = Integer.MAX_VALUE;

    static int promise = 0;
    /** The words of the document that are tested, where a test is about one sentence. */
    static String sentence = "";
    private static int passed = 0;
    private static int failed = 0;

    static void says(int number, String words) {
        promise = number;
        sentence = words;
    }

    static void is(String what, long got, long want) {
        if (got == want) {
            passed++;
            return;
        }
        failed++;
        String where = sentence.isEmpty() ? "" : " \"" + sentence + "\"";
        System.out.println("promise " + promise + where + ": " + what + " answered " + got + ", due is " + want);
    }

    /** What is about no promise: the text of the class, the README. */
    static void holds(String what, boolean good) {
        if (good) {
            passed++;
            return;
        }
        failed++;
        System.out.println("not so: " + what);
    }

    static void finish(String name) {
        System.out.println(name + ": " + passed + " passed, " + failed + " failed");
        if (failed != 0) System.exit(1);
    }

    static PrettyShapes typed(String text) {
        PrettyShapes x = new PrettyShapes();
        for (int i = 0; i < text.length(); i++) x.type(text.charAt(i));
        return x;
    }

    static PrettyShapes typed(String text, int width) {
        PrettyShapes x = typed(text);
        x.width(width);
        return x;
    }

    static void shape(String what, PrettyShapes x, int part, int i, int... due) {
        for (int w = 0; w < due.length; w++) is(what + " frontier(" + part + ", " + i + ", " + w + ")", x.frontier(part, i, w), due[w]);
    }

    static void best(String what, PrettyShapes x, int... due) {
        for (int w = 0; w < due.length; w++) is(what + " best(" + w + ")", x.best(w), due[w]);
    }

    static void page(String what, PrettyShapes x, String... lines) {
        for (int l = 0; l < lines.length; l++) {
            is(what + " line(" + l + ", NONE)", x.line(l, NONE), lines[l].length());
            for (int c = 0; c < lines[l].length(); c++) is(what + " line(" + l + ", " + c + ")", x.line(l, c), lines[l].charAt(c));
            is(what + " behind line " + l, x.line(l, lines[l].length()), NONE);
        }
        is(what + " behind the lines", x.line(lines.length, NONE), NONE);
        is(what + " behind the lines, column 0", x.line(lines.length, 0), NONE);
    }

    /** Just outside the bounds, and as far off as an int can be. */
    static int[] outside(int least, int most) {
        return new int[] {least - 1, most + 1, LEAST, FAR};
    }
}
