import java.util.ArrayList;
import java.util.List;

/** Objects in all kinds of states, and all that can be seen of them, for tests of what a call leaves as it was. */
abstract class States extends Check {
    interface Act {
        int on(PrettyShapes x);
    }

    /** A text and a WIDTH. */
    static final class State {
        final String text;
        final int width;

        State(String text, int width) {
            this.text = text;
            this.width = width;
        }
    }

    static final State EMPTY = new State("", 20);
    static final State WELL = new State("CHabVab", 20);
    static final State OVER = new State("CHabVab", 1);
    static final State FAULTY = new State("CHabVabc", 20);
    static final State NO_LAYOUT = new State("HCabFVab", 20);
    static final State FULL_WELL = new State("N9".repeat(19) + "Fi", 99);
    static final State FULL_FAULTY = new State("C".repeat(40), 1);
    static final State[] ALL = {EMPTY, WELL, OVER, FAULTY, NO_LAYOUT, FULL_WELL, FULL_FAULTY};

    static final int[][] ROWS = {{72, -2, 97}, {300, -300}, {70000, LEAST}};
    static final int LOST = 3;

    /** An object with a row of each FORM, a LOST SHEET, and a FINDING of that number (4 or 5). */
    static PrettyShapes ready(State state, int finding) {
        PrettyShapes x = typed(state.text, state.width);
        for (int form = 0; form < ROWS.length; form++) {
            x.sheet(form, form, ROWS[form].length);
            for (int i = 0; i < ROWS[form].length; i++) x.put(form, form, i, ROWS[form][i]);
        }
        if (finding == 5) x.sheet(0, 0, -1); else x.copy(0, 0, 1, 0, 0);
        return x;
    }

    /** All that can be seen of it; it is used up by that. */
    static List<Long> picture(PrettyShapes x) {
        List<Long> seen = new ArrayList<>(sheetsOf(x));
        seen.addAll(textOf(x));
        return seen;
    }

    /** Of ROWS and the LOST one; they are lost by that. */
    static List<Long> sheetsOf(PrettyShapes x) {
        List<Long> seen = new ArrayList<>();
        for (int form = 0; form < ROWS.length; form++)
            for (int i = 0; i < ROWS[form].length; i++) seen.add((long) x.get(form, form, i));
        for (int s = 0; s < 4; s++) seen.add((long) x.lose(s));
        return seen;
    }

    /** Of the text, its bytes one by one, and of WIDTH; it is wiped by that. */
    static List<Long> textOf(PrettyShapes x) {
        List<Long> seen = new ArrayList<>();
        for (int l = 0; l < 3; l++) for (int c = NONE; c < 12; c++) seen.add((long) x.line(l, c));
        seen.add(x.digest());
        for (int left = x.undo(); left >= 0; left = x.undo()) seen.add(x.digest());
        return seen;
    }
}
