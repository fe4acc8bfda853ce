/**
 * Every refusal of every promise, by its number: what it answers, that it is the first that fits where several would,
 * and that it leaves everything as it was (a FINDING: all but count() 8), whatever the text and WIDTH are.
 */
public final class RefusalsTest extends States {
    private static final State[] NO_DOC = {EMPTY, FAULTY, FULL_FAULTY};
    private static final State[] A_DOC = {WELL, OVER, NO_LAYOUT, FULL_WELL};
    private static final State[] NO_ROOM = {FULL_WELL, FULL_FAULTY};

    public static void main(String[] args) {
        type();
        undo();
        width();
        read();
        part();
        frontier();
        tried();
        best();
        line();
        way();
        haste();
        shrinks();
        sheet();
        lose();
        put();
        get();
        copy();
        write();
        count();
        finish("RefusalsTest");
    }

    private static void refused(State[] states, String call, int due, Act act) {
        refused(states, call, due, due <= NULL && due >= SIZE ? -10 - due : 0, act);
    }

    /** The number of the FINDING is 0 where it is none. */
    private static void refused(State[] states, String call, int due, int finding, Act act) {
        int before = finding == 5 ? 4 : 5;
        for (State state : states) {
            String told = call + " with the text '" + state.text + "' and WIDTH " + state.width;
            PrettyShapes x = ready(state, before);
            is(told, act.on(x), due);
            is(told + ", then count(8)", x.count(8), finding == 0 ? before : finding);
            boolean same = picture(x).equals(picture(ready(state, before)));
            is(told + ", then all else as it was (1)", same ? 1 : 0, 1);
        }
    }

    private static void bad(State[] states, String call, Act act) {
        refused(states, call, BAD, act);
    }

    private static void type() {
        promise = 2;
        for (int b : outside(0, 255)) bad(ALL, "type(" + b + ")", x -> x.type(b));
        int[] bytes = {0, 'a', 'C', 255};
        for (int b : bytes) refused(NO_ROOM, "type(" + b + ")", FULL, x -> x.type(b));
    }

    private static void undo() {
        promise = 4;
        refused(new State[] {EMPTY}, "undo()", NOT, x -> x.undo());
    }

    private static void width() {
        promise = 6;
        for (int v : outside(1, 99)) bad(ALL, "width(" + v + ")", x -> x.width(v));
    }

    private static void read() {
        promise = 7;
        for (int s : outside(0, 3)) bad(ALL, "read(" + s + ")", x -> x.read(s));
        refused(ALL, "read(3), LOST", NULL, x -> x.read(LOST));
    }

    private static void part() {
        promise = 8;
        for (State state : A_DOC) {
            State[] one = {state};
            int parts = typed(state.text).count(1);
            for (int p : outside(0, parts - 1)) bad(one, "part(" + p + ", 0)", x -> x.part(p, 0));
            bad(one, "part(40, 0)", x -> x.part(40, 0));
        }
        for (int what = 0; what < 4; what++) {
            int w = what;
            bad(NO_DOC, "part(0, " + w + "), there is no DOC", x -> x.part(0, w));
        }
        for (int what : outside(0, 3)) bad(ALL, "part(0, " + what + ")", x -> x.part(0, what));
    }

    private static void frontier() {
        promise = 9;
        for (State state : A_DOC) {
            State[] one = {state};
            int parts = typed(state.text).count(1);
            for (int p : outside(0, parts - 1)) bad(one, "frontier(" + p + ", 0, 0)", x -> x.frontier(p, 0, 0));
        }
        for (int i : outside(0, 63)) bad(ALL, "frontier(0, " + i + ", 0)", x -> x.frontier(0, i, 0));
        for (int what : outside(0, 3)) {
            bad(ALL, "frontier(0, 0, " + what + ")", x -> x.frontier(0, 0, what));
            bad(ALL, "frontier(0, 63, " + what + "), BAD ahead of NONE", x -> x.frontier(0, 63, what));
        }
        bad(NO_DOC, "frontier(0, 0, 0), there is no DOC", x -> x.frontier(0, 0, 0));
        bad(NO_DOC, "frontier(0, 63, 3), there is no DOC", x -> x.frontier(0, 63, 3));
    }

    private static void tried() {
        promise = 10;
        for (int what : outside(0, 1)) bad(ALL, "tried(" + what + ")", x -> x.tried(what));
    }

    private static void best() {
        promise = 11;
        for (int what : outside(0, 4)) bad(ALL, "best(" + what + ")", x -> x.best(what));
    }

    private static void line() {
        promise = 12;
        for (int line : outside(0, 99)) {
            bad(ALL, "line(" + line + ", 0)", x -> x.line(line, 0));
            bad(ALL, "line(" + line + ", NONE)", x -> x.line(line, NONE));
        }
        for (int column : outside(NONE, 399)) {
            bad(ALL, "line(0, " + column + ")", x -> x.line(0, column));
            bad(ALL, "line(99, " + column + "), BAD ahead of NONE", x -> x.line(99, column));
        }
    }

    private static void way() {
        promise = 13;
        for (int way : outside(0, 63)) bad(ALL, "way(" + way + ", 0)", x -> x.way(way, 0));
        for (int what : outside(0, 2)) bad(ALL, "way(0, " + what + ")", x -> x.way(0, what));
    }

    private static void haste() {
        promise = 14;
        for (int what : outside(0, 2)) bad(ALL, "haste(" + what + ")", x -> x.haste(what));
    }

    private static void shrinks() {
        promise = 16;
        for (int i : outside(NONE, 39)) bad(ALL, "shrinks(" + i + ")", x -> x.shrinks(i));
    }

    private static void sheet() {
        promise = 18;
        int[] sizes = {0, 5, -1, 61, LEAST, FAR};
        for (int n : sizes) {
            for (int s : outside(0, 3)) bad(ALL, "sheet(" + s + ", 0, " + n + ")", x -> x.sheet(s, 0, n));
            for (int form : outside(0, 2)) bad(ALL, "sheet(0, " + form + ", " + n + ")", x -> x.sheet(0, form, n));
        }
        int[] above = {61, 62, 255, FAR};
        int[] below = {-1, -61, LEAST};
        for (int s = 0; s < 4; s++) {
            int own = s;
            for (int n : above) bad(ALL, "sheet(" + s + ", 1, " + n + ")", x -> x.sheet(own, 1, n));
            for (int n : below) refused(ALL, "sheet(" + s + ", 1, " + n + ")", SIZE, x -> x.sheet(own, 1, n));
        }
    }

    private static void lose() {
        promise = 19;
        for (int s : outside(0, 3)) bad(ALL, "lose(" + s + ")", x -> x.lose(s));
        refused(ALL, "lose(3), LOST", NULL, x -> x.lose(LOST));
    }

    private static void put() {
        promise = 20;
        for (int s : outside(0, 3)) bad(ALL, "put(" + s + ", 0, 0, 9)", x -> x.put(s, 0, 0, 9));
        for (int form : outside(0, 2)) {
            bad(ALL, "put(0, " + form + ", 0, 9)", x -> x.put(0, form, 0, 9));
            bad(ALL, "put(0, " + form + ", -1, 9), BAD ahead of CAST, INDEX", x -> x.put(0, form, -1, 9));
            bad(ALL, "put(3, " + form + ", 0, 9), BAD ahead of NULL", x -> x.put(LOST, form, 0, 9));
        }
        for (int form = 0; form < 3; form++) {
            int own = form, other = (form + 1) % 3, third = (form + 2) % 3;
            for (int i : outside(0, -1)) {
                refused(ALL, "put(3, " + form + ", " + i + ", 9), NULL ahead of INDEX", NULL, x -> x.put(LOST, own, i, 9));
            }
            for (int i : outside(0, ROWS[form].length - 1)) {
                String told = form + ", " + i + ", 9)";
                refused(ALL, "put(" + form + ", " + told, INDEX, x -> x.put(own, own, i, 9));
                refused(ALL, "put of another, CAST ahead of INDEX: " + other + ", " + told, CAST, x -> x.put(other, own, i, 9));
            }
            refused(ALL, "put(" + form + ", " + other + ", 0, 9)", CAST, x -> x.put(own, other, 0, 9));
            refused(ALL, "put(" + form + ", " + third + ", 0, 9)", CAST, x -> x.put(own, third, 0, 9));
        }
    }

    private static void get() {
        promise = 21;
        for (int s : outside(0, 3)) refused(ALL, "get(" + s + ", 0, 0)", LEAST, 0, x -> x.get(s, 0, 0));
        for (int form : outside(0, 2)) {
            refused(ALL, "get(0, " + form + ", 0)", LEAST, 0, x -> x.get(0, form, 0));
            refused(ALL, "get(0, " + form + ", -1), BAD ahead of CAST, INDEX", LEAST, 0, x -> x.get(0, form, -1));
            refused(ALL, "get(3, " + form + ", 0), BAD ahead of NULL", LEAST, 0, x -> x.get(LOST, form, 0));
        }
        for (int form = 0; form < 3; form++) {
            int own = form, other = (form + 1) % 3, third = (form + 2) % 3;
            for (int i : outside(0, -1)) {
                refused(ALL, "get(3, " + form + ", " + i + "), NULL ahead of INDEX", LEAST, 1, x -> x.get(LOST, own, i));
            }
            for (int i : outside(0, ROWS[form].length - 1)) {
                String told = form + ", " + i + ")";
                refused(ALL, "get(" + form + ", " + told, LEAST, 2, x -> x.get(own, own, i));
                refused(ALL, "get of another, CAST ahead of INDEX: " + other + ", " + told, LEAST, 3, x -> x.get(other, own, i));
            }
            refused(ALL, "get(" + form + ", " + other + ", 0)", LEAST, 3, x -> x.get(own, other, 0));
            refused(ALL, "get(" + form + ", " + third + ", 0)", LEAST, 3, x -> x.get(own, third, 0));
        }
        // The SHEET is asked for its FORM as it is now, not as it was.
        refused(new State[] {WELL}, "get of what was lost and made anew", LEAST, 3, x -> {
            x.sheet(LOST, 0, 1);
            x.lose(LOST);
            x.sheet(LOST, 1, 1);
            int got = x.get(LOST, 0, 0);
            x.lose(LOST);
            return got;
        });
    }

    private static void copy() {
        promise = 22;
        for (int s : outside(0, 3)) {
            bad(ALL, "copy(" + s + ", 0, 0, 0, 1)", x -> x.copy(s, 0, 0, 0, 1));
            bad(ALL, "copy(0, 0, " + s + ", 0, 1)", x -> x.copy(0, 0, s, 0, 1));
            bad(ALL, "copy(" + s + ", 0, 3, 0, 1), BAD ahead of NULL", x -> x.copy(s, 0, LOST, 0, 1));
            bad(ALL, "copy(3, 0, " + s + ", 0, 1), BAD ahead of NULL", x -> x.copy(LOST, 0, s, 0, 1));
            bad(ALL, "copy(" + s + ", -1, 0, -1, -1), BAD ahead of INDEX", x -> x.copy(s, -1, 0, -1, -1));
        }
        int[] many = {0, 1, -1, 61, LEAST, FAR};
        for (int n : many) {
            refused(ALL, "copy(3, 0, 0, 0, " + n + ")", NULL, x -> x.copy(LOST, 0, 0, 0, n));
            refused(ALL, "copy(0, 0, 3, 0, " + n + ")", NULL, x -> x.copy(0, 0, LOST, 0, n));
            refused(ALL, "copy(3, 0, 3, 0, " + n + ")", NULL, x -> x.copy(LOST, 0, LOST, 0, n));
            for (int s = 0; s < 3; s++) {
                int own = s, other = (s + 1) % 3, third = (s + 2) % 3;
                refused(ALL, "copy(" + s + ", 0, " + other + ", 0, " + n + ")", STORE, x -> x.copy(own, 0, other, 0, n));
                refused(ALL, "copy(" + s + ", 0, " + third + ", 0, " + n + ")", STORE, x -> x.copy(own, 0, third, 0, n));
            }
        }
        refused(ALL, "copy(0, -1, 1, 9, 1), STORE ahead of INDEX", STORE, x -> x.copy(0, -1, 1, 9, 1));
        copyBeyond();
    }

    private static void copyBeyond() {
        int[][] wrong = {{-1, 0, 0}, {0, -1, 0}, {0, 0, -1}, {-1, 0, 1}, {0, -1, 1}, {0, 0, 4}, {1, 0, 3}, {0, 1, 3}, {3, 0, 1},
            {0, 3, 1}, {4, 0, 0}, {0, 4, 0}, {4, 0, -1}, {0, 4, -1}, {1, 1, -1}, {-1, 0, 4}, {LEAST, 0, 1}, {0, LEAST, 1}, {0, 0, LEAST},
            {FAR, 0, 1}, {0, FAR, 1}, {0, 0, FAR}, {1, 0, FAR}, {0, 1, FAR}, {FAR, FAR, FAR}, {LEAST, LEAST, LEAST},
            {FAR, 0, LEAST}, {LEAST, 0, FAR}, {LEAST, 0, LEAST}, {3, 3, FAR}, {3, 3, LEAST}, {FAR, FAR, 0}, {LEAST, LEAST, 0}};
        for (int[] w : wrong) {
            refused(ALL, "copy(0, " + w[0] + ", 0, " + w[1] + ", " + w[2] + ")", INDEX, x -> x.copy(0, w[0], 0, w[1], w[2]));
        }
        // The one has enough items, the other not.
        State[] one = {WELL};
        refused(one, "copy of 2 from a row of 2 to one of 1", INDEX, x -> {
            x.sheet(LOST, 1, 1);
            int got = x.copy(1, 0, LOST, 0, 2);
            x.lose(LOST);
            return got;
        });
        refused(one, "copy of 2 from a row of 1 to one of 2", INDEX, x -> {
            x.sheet(LOST, 1, 1);
            int got = x.copy(LOST, 0, 1, 0, 2);
            x.lose(LOST);
            return got;
        });
    }

    private static void write() {
        promise = 23;
        for (int line : outside(0, 99)) {
            bad(ALL, "write(" + line + ", 0)", x -> x.write(line, 0));
            bad(ALL, "write(" + line + ", 3), BAD ahead of NULL", x -> x.write(line, LOST));
        }
        for (int s : outside(0, 3)) bad(ALL, "write(0, " + s + ")", x -> x.write(0, s));
        refused(ALL, "write(0, 3), LOST", NULL, x -> x.write(0, LOST));
        refused(ALL, "write(99, 3), LOST", NULL, x -> x.write(99, LOST));
    }

    private static void count() {
        promise = 24;
        for (int what : outside(0, 8)) bad(ALL, "count(" + what + ")", x -> x.count(what));
    }
}
