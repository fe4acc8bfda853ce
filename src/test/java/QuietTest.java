import java.util.List;

/**
 * Each call changes what its promise says and nothing else; what an object answers hangs on its text, WIDTH, SHEETS and
 * latest FINDING alone, not on the calls by which they came to be, nor on other objects.
 */
public final class QuietTest extends States {
    private static final int FINDING = 4;
    private static final String[] TEXTS = {"a", "CHabVab", "VCHabVabCHcdVcd", "HdVbN2c", "FCVabHab", "FVab", "Habc", "CCCCCCC",
        "HCabHCabHCabHCabHCabCab", "N9".repeat(19) + "Fi"};
    private static final int[] WIDTHS = {1, 3, 20, 99};

    public static void main(String[] args) {
        questions();
        textCalls();
        sheetCalls();
        questionsAgain();
        textByAnyCalls();
        widthAtAnyTime();
        sheetByAnyCalls();
        apart();
        finish("QuietTest");
    }

    private static void same(String what, List<Long> got, List<Long> due) {
        is(what + " as due (1)", got.equals(due) ? 1 : 0, 1);
    }

    private static String told(String call, State state) {
        return call + " with the text '" + state.text + "' and WIDTH " + state.width;
    }

    private static void asks(int number, String call, Act act) {
        says(number, "a question changes nothing");
        for (State state : ALL) {
            PrettyShapes x = ready(state, FINDING);
            int first = act.on(x);
            is(told(call, state) + ", asked again", act.on(x), first);
            is(told(call, state) + ", count(8)", x.count(8), FINDING);
            same(told(call, state) + ", then all is", picture(x), picture(ready(state, FINDING)));
        }
    }

    private static void questions() {
        asks(5, "fault()", x -> x.fault());
        asks(8, "part(0, 2)", x -> x.part(0, 2));
        asks(8, "part(3, 3)", x -> x.part(3, 3));
        asks(9, "frontier(0, 0, 3)", x -> x.frontier(0, 0, 3));
        asks(9, "frontier(1, 63, 0)", x -> x.frontier(1, 63, 0));
        asks(10, "tried(0)", x -> x.tried(0));
        asks(10, "tried(1)", x -> x.tried(1));
        for (int what = 0; what <= 4; what++) {
            int w = what;
            asks(11, "best(" + w + ")", x -> x.best(w));
        }
        asks(12, "line(0, NONE)", x -> x.line(0, NONE));
        asks(12, "line(1, 1)", x -> x.line(1, 1));
        for (int w : new int[] {0, 1, 63}) asks(13, "way(" + w + ", 2)", x -> x.way(w, 2));
        for (int what = 0; what <= 2; what++) {
            int w = what;
            asks(14, "haste(" + w + ")", x -> x.haste(w));
        }
        asks(15, "enough()", x -> x.enough());
        asks(16, "shrinks(NONE)", x -> x.shrinks(NONE));
        asks(16, "shrinks(0)", x -> x.shrinks(0));
        asks(17, "spare()", x -> x.spare());
        for (int form = 0; form < ROWS.length; form++) {
            int own = form;
            asks(21, "get(" + own + ", " + own + ", 1)", x -> x.get(own, own, 1));
        }
        for (int what = 0; what <= 8; what++) {
            int w = what;
            asks(24, "count(" + w + ")", x -> x.count(w));
        }
        asks(25, "digest()", x -> Long.hashCode(x.digest()));
    }

    private static void leavesSheets(int number, String call, Act act) {
        says(number, "it is about the text, the width alone");
        for (State state : ALL) {
            PrettyShapes x = ready(state, FINDING);
            act.on(x);
            is(told(call, state) + ", count(8)", x.count(8), FINDING);
            same(told(call, state) + ", then the SHEETS are", sheetsOf(x), sheetsOf(ready(state, FINDING)));
        }
    }

    private static void textCalls() {
        leavesSheets(2, "type(97)", x -> x.type('a'));
        leavesSheets(3, "wipe()", x -> x.wipe());
        leavesSheets(4, "undo()", x -> x.undo());
        leavesSheets(6, "width(7)", x -> x.width(7));
        for (int s = 0; s < ROWS.length; s++) {
            int own = s;
            leavesSheets(7, "read(" + own + ")", x -> x.read(own));
        }
        for (State state : ALL) {
            PrettyShapes x = ready(state, FINDING);
            says(2, "WIDTH stays");
            x.type('a');
            is(told("type(97)", state) + ", count(3)", x.count(3), state.width);
            says(7, "WIDTH stays");
            x.read(0);
            is(told("read(0)", state) + ", count(3)", x.count(3), state.width);
            says(4, "WIDTH stays");
            x.undo();
            is(told("undo()", state) + ", count(3)", x.count(3), state.width);
            says(3, "WIDTH stays");
            x.wipe();
            is(told("wipe()", state) + ", count(3)", x.count(3), state.width);
            says(6, "the text stays");
            PrettyShapes y = ready(state, FINDING);
            y.width(7);
            same(told("width(7)", state) + ", then the text is", textOf(y), textOf(typed(state.text, 7)));
        }
    }

    private static void leavesText(int number, String call, Act act) {
        says(number, "it is about SHEETS alone");
        for (State state : ALL) {
            PrettyShapes x = ready(state, FINDING);
            act.on(x);
            is(told(call, state) + ", count(8)", x.count(8), FINDING);
            same(told(call, state) + ", then text and WIDTH are", textOf(x), textOf(typed(state.text, state.width)));
        }
    }

    private static void sheetCalls() {
        for (int s = 0; s < 4; s++) {
            int own = s;
            leavesText(18, "sheet(" + own + ", 0, 40)", x -> x.sheet(own, 0, 40));
        }
        for (int s = 0; s < ROWS.length; s++) {
            int own = s;
            leavesText(19, "lose(" + own + ")", x -> x.lose(own));
            leavesText(20, "put(" + own + ", " + own + ", 0, 98)", x -> x.put(own, own, 0, 'b'));
            leavesText(22, "copy(" + own + ", 0, " + own + ", 1, 1)", x -> x.copy(own, 0, own, 1, 1));
            leavesText(23, "write(0, " + own + ")", x -> x.write(0, own));
        }
        says(20, "Item i, no other");
        PrettyShapes x = ready(WELL, FINDING);
        x.put(1, 1, 1, 5);
        x.put(1, 1, 1, ROWS[1][1]);
        same("put there and back, then the SHEETS are", sheetsOf(x), sheetsOf(ready(WELL, FINDING)));
        says(23, "to a SHEET, no other");
        PrettyShapes y = ready(WELL, FINDING);
        is("write(0, 1)", y.write(0, 1), 2);
        y.put(1, 1, 0, ROWS[1][0]);
        y.put(1, 1, 1, ROWS[1][1]);
        same("write and put back, then the SHEETS are", sheetsOf(y), sheetsOf(ready(WELL, FINDING)));
    }

    /** All questions in one order, then in the other. */
    private static void questionsAgain() {
        says(25, "an answer does not hang on what was asked before");
        for (String text : TEXTS) {
            for (int v : WIDTHS) {
                PrettyShapes x = typed(text, v), y = typed(text, v);
                int[] down = answers(x, 11, -1), up = answers(y, 0, 1);
                for (int q = 0; q < up.length; q++) is("question " + q + " of " + text + " for " + v, down[q], up[q]);
            }
        }
    }

    private static int[] answers(PrettyShapes x, int from, int step) {
        int[] all = new int[12];
        for (int q = from; q >= 0 && q < all.length; q += step) all[q] = answer(x, q);
        return all;
    }

    private static int answer(PrettyShapes x, int question) {
        switch (question) {
            case 0: return Long.hashCode(x.digest());
            case 1: return x.spare();
            case 2: return x.shrinks(0);
            case 3: return x.enough();
            case 4: return x.haste(0);
            case 5: return x.way(5, 1);
            case 6: return x.line(1, 2);
            case 7: return x.best(3);
            case 8: return x.tried(1);
            case 9: return x.frontier(0, 1, 2);
            case 10: return x.part(0, 2);
            default: return x.fault();
        }
    }

    private static void textByAnyCalls() {
        for (String text : TEXTS) {
            List<Long> due = textOf(typed(text));
            says(7, "bytes that were read are as bytes that were typed");
            for (int form = 0; form < 3; form++) {
                PrettyShapes x = new PrettyShapes();
                x.sheet(2, form, text.length());
                for (int i = 0; i < text.length(); i++) x.put(2, form, i, text.charAt(i));
                is("read(2) of " + text + " in FORM " + form, x.read(2), text.length());
                same(text + " is", textOf(x), due);
            }
            says(4, "what was undone is as if it was never typed");
            PrettyShapes x = new PrettyShapes();
            for (int i = 0; i < text.length(); i++) {
                x.type(i % 2 == 0 ? 'C' : 'i');
                x.undo();
                x.type(text.charAt(i));
            }
            same(text + " is", textOf(x), due);
        }
    }

    private static void widthAtAnyTime() {
        says(6, "WIDTH may come ahead of the text, in it and behind it");
        for (String text : TEXTS) {
            for (int v : WIDTHS) {
                long due = typed(text, v).digest();
                PrettyShapes ahead = new PrettyShapes(), within = new PrettyShapes(), often = typed(text);
                ahead.width(v);
                for (int i = 0; i < text.length(); i++) {
                    ahead.type(text.charAt(i));
                    if (i == text.length() / 2) within.width(v);
                    within.type(text.charAt(i));
                }
                for (int other = 1; other <= 99; other += 7) often.width(other);
                often.width(v);
                is("digest() of " + text + " for " + v + ", told ahead", ahead.digest(), due);
                is("digest() of " + text + " for " + v + ", told within", within.digest(), due);
                is("digest() of " + text + " for " + v + ", told often", often.digest(), due);
            }
        }
    }

    private static void sheetByAnyCalls() {
        says(7, "what was written to a SHEET can be read");
        PrettyShapes x = typed("Hab");
        x.sheet(0, 0, 9);
        is("write(0, 0)", x.write(0, 0), 3);
        x.wipe();
        for (int b : new int[] {'H', 'H'}) x.type(b);
        x.sheet(1, 0, 3);
        is("copy", x.copy(0, 0, 1, 0, 3), 1);
        is("read(1)", x.read(1), 3);
        same("HHabb is", textOf(x), textOf(typed("HHabb")));
        says(23, "what SET is now, not what it was when the SHEET was made");
        PrettyShapes y = typed("CHabVab");
        y.sheet(3, 2, 5);
        is("write(0, 3)", y.write(0, 3), 3);
        y.width(2);
        is("write(1, 3)", y.write(1, 3), 2);
        int[] due = {'b', 'b', 'b', 0, 0};
        for (int i = 0; i < due.length; i++) is("get(3, 2, " + i + ")", y.get(3, 2, i), due[i]);
    }

    private static void apart() {
        says(1, "one object does not know of another");
        for (State one : ALL) {
            for (State other : ALL) {
                PrettyShapes x = new PrettyShapes(), y = new PrettyShapes();
                for (int i = 0; i < 40; i++) {
                    if (i < one.text.length()) x.type(one.text.charAt(i));
                    if (i < other.text.length()) y.type(other.text.charAt(i));
                }
                x.width(one.width);
                y.width(other.width);
                x.sheet(0, 1, 2);
                y.sheet(0, 2, 3);
                x.put(0, 1, 0, 7);
                y.put(0, 2, 0, 9);
                x.lose(1);
                y.get(0, 2, 3);
                is("get of the one", x.get(0, 1, 0), 7);
                is("get of the other", y.get(0, 2, 0), 9);
                is("count(8) of the one", x.count(8), 1);
                is("count(8) of the other", y.count(8), 2);
                same(told("the one", one) + " is", textOf(x), textOf(typed(one.text, one.width)));
                same(told("the other", other) + " is", textOf(y), textOf(typed(other.text, other.width)));
            }
        }
    }
}
