/**
 * All that can be asked of an object, one answer a line, so that two objects can be compared. The
 * object is made anew after some questions, since none is used for more than 512 calls.
 */
final class State {
    /** The calls that bring a new object to where it is looked at: at most some 200. */
    interface Run {
        void on(ClassFileIndex x);
    }

    private static final int MOST_QUESTIONS = 250;
    /** Into the first and the second value, one and two steps, and beyond. */
    private static final int[] PATHS = {0, 1, 2, 1 + 8, 2 + 8, -1};

    private final Run run;
    private final StringBuilder answers = new StringBuilder();
    private ClassFileIndex x;
    private int asked = MOST_QUESTIONS;
    private int classes;
    private int texts;

    private State(Run run) {
        this.run = run;
    }

    static String after(Run run) {
        State state = new State(run);
        state.askSizes();
        state.askTexts();
        state.askClasses();
        state.askPairs();
        state.askBuffer();
        return state.answers.toString();
    }

    /** For calls that must change nothing: both runs bring an object to the same state. */
    static void due(String what, Run with, Run without) {
        String[] got = after(with).split("\n");
        String[] want = after(without).split("\n");
        int line = 0;
        while (line < Math.min(got.length, want.length) && got[line].equals(want[line])) {
            line++;
        }
        boolean same = got.length == want.length && line == got.length;
        String where = same ? "" : ": " + at(got, line) + " instead of " + at(want, line);
        Due.due(what + where, same, true);
    }

    private static String at(String[] lines, int line) {
        return line < lines.length ? lines[line] : "nothing";
    }

    private ClassFileIndex fresh() {
        if (asked == MOST_QUESTIONS) {
            x = new ClassFileIndex();
            run.on(x);
            asked = 0;
        }
        asked++;
        return x;
    }

    private void add(String call, long answer) {
        answers.append(call).append(" = ").append(answer).append('\n');
    }

    private void add(String call, boolean answer) {
        add(call, answer ? 1L : 0L);
    }

    private void askSizes() {
        classes = fresh().classes();
        texts = fresh().texts();
        add("classes()", classes);
        add("texts()", texts);
        add("length()", fresh().length());
    }

    private void askTexts() {
        for (int t = -1; t <= texts; t++) {
            for (int i = -1; i <= 10; i++) {
                add("letter(" + t + ", " + i + ")", fresh().letter(t, i));
            }
            add("find(" + t + ")", fresh().find(t));
            for (int k = -1; k <= classes; k++) {
                add("subtypeAt(" + t + ", " + k + ")", fresh().subtypeAt(t, k));
            }
        }
    }

    private void askClasses() {
        for (int c = -1; c <= classes; c++) {
            add("name(" + c + ")", fresh().name(c));
            add("flags(" + c + ")", fresh().flags(c));
            add("superName(" + c + ")", fresh().superName(c));
        }
    }

    private void askPairs() {
        for (int c = -1; c <= classes; c++) {
            for (int t = -1; t <= texts; t++) {
                String pair = "(" + c + ", " + t;
                add("subtype" + pair + ")", fresh().subtype(c, t));
                add("holder" + pair + ")", fresh().holder(c, t));
                add("count" + pair + ")", fresh().count(c, t));
                add("meta" + pair + ")", fresh().meta(c, t));
                askValues(c, t);
            }
        }
    }

    private void askValues(int c, int t) {
        for (int element = -1; element <= texts; element++) {
            for (int path : PATHS) {
                String call = "value(" + c + ", " + t + ", " + element + ", " + path + ")";
                add(call, fresh().value(c, t, element, path));
            }
        }
    }

    /** The bytes themselves can only be seen by reading them. */
    private void askBuffer() {
        asked = MOST_QUESTIONS;
        add("read()", fresh().read());
        add("then length()", fresh().length());
        add("then classes()", fresh().classes());
        add("then texts()", fresh().texts());
    }
}
