/**
 * "A class or text number that isn't there is answered as said at each call": one step before the first
 * and one behind the last, and far off; the last ones that are there have an answer to every call.
 */
public final class AbsentEdgeTest {
    private static final long STEP = 1L << 32;
    /** A class Z that is its own super, interface and annotation's type; Z is the file's last text. */
    private static final String CONSTANTS = "t:x k:3 t:Z";
    private static final String REST = "3 2 2 0 1 2 1 2 1 3 s 3 1 1 s 1";

    public static void main(String[] args) {
        for (int classes = 1; classes <= 16; classes += 5) {
            look(classes);
        }
        pairsOfAbsentNumbers();
        kth();
        askingChangesNothing();
        Due.finish();
    }

    /** The class Z is the last of so many. */
    private static void load(ClassFileIndex x, int classes) {
        for (int i = 1; i < classes; i++) {
            Files.load(x, "t:" + (char) ('A' + i) + " k:1", "0 2 0 0 0 0 0");
        }
        Files.load(x, CONSTANTS, REST);
    }

    private static void look(int classes) {
        ClassFileIndex x = new ClassFileIndex();
        load(x, classes);
        int c = classes - 1;
        int t = classes;
        Due.due("classes()", x.classes(), classes);
        Due.due("texts()", x.texts(), t + 1);
        there(x, c, t);
        for (int absent : new int[] {-1, classes, classes + 1, 16, 17, -2, Integer.MIN_VALUE, Integer.MAX_VALUE}) {
            noClass(x, absent, t);
        }
        for (int absent : new int[] {-1, t + 1, t + 2, 175, 176, 191, 192, Integer.MIN_VALUE, Integer.MAX_VALUE}) {
            noText(x, c, absent);
            Due.due("value of element " + absent, x.value(c, t, absent, 0), -1);
        }
        there(x, c, t);
    }

    private static void there(ClassFileIndex x, int c, int t) {
        String last = " of the last class " + c + " and text " + t;
        Due.due("name" + last, x.name(c), t);
        Due.due("flags" + last, x.flags(c), 3);
        Due.due("superName" + last, x.superName(c), t);
        Due.due("letter" + last, x.letter(t, 0), 'Z');
        Due.due("find" + last, x.find(t), c);
        Due.due("subtype" + last, x.subtype(c, t), true);
        Due.due("subtypeAt" + last, x.subtypeAt(t, 0), c);
        Due.due("holder" + last, x.holder(c, t), c);
        Due.due("count" + last, x.count(c, t), 1);
        Due.due("meta" + last, x.meta(c, t), true);
        Due.due("value" + last, x.value(c, t, t, 0), 2 * STEP + t);
        Due.due("default" + last, x.value(c, t, t - 1, 0), 2 * STEP + t - 1);
    }

    private static void noClass(ClassFileIndex x, int c, int t) {
        String absent = " of class " + c;
        Due.due("name" + absent, x.name(c), -1);
        Due.due("flags" + absent, x.flags(c), -1);
        Due.due("superName" + absent, x.superName(c), -1);
        noPair(x, c, t);
    }

    private static void noText(ClassFileIndex x, int c, int t) {
        String absent = " of text " + t;
        Due.due("letter" + absent, x.letter(t, 0), -1);
        Due.due("find" + absent, x.find(t), -1);
        Due.due("subtypeAt" + absent, x.subtypeAt(t, 0), -1);
        noPair(x, c, t);
    }

    private static void noPair(ClassFileIndex x, int c, int t) {
        String pair = "(" + c + ", " + t + ")";
        Due.due("subtype" + pair, x.subtype(c, t), false);
        Due.due("holder" + pair, x.holder(c, t), -1);
        Due.due("count" + pair, x.count(c, t), 0);
        Due.due("meta" + pair, x.meta(c, t), false);
        Due.due("value" + pair, x.value(c, t, 1, 0), -1);
    }

    /** Neither of them is there; a class without super has no text -1 as its super. */
    private static void pairsOfAbsentNumbers() {
        int[] absent = {-1, 16, 192, Integer.MIN_VALUE, Integer.MAX_VALUE};
        ClassFileIndex x = new ClassFileIndex();
        Files.load(x, "t:A k:1", "0 2 0 0 0 0 0");
        for (int c : absent) {
            for (int t : absent) {
                noPair(x, c, t);
            }
            noPair(x, 0, c);
        }
        Due.due("superName of a class without", x.superName(0), -1);
    }

    /** "NONE when there are not so many, k is negative" */
    private static void kth() {
        for (int classes = 1; classes <= 16; classes++) {
            ClassFileIndex x = new ClassFileIndex();
            for (int i = 0; i < classes; i++) {
                Files.load(x, "t:T k:1 t:" + (char) ('a' + i) + " k:3", "0 4 2 0 0 0 0");
            }
            for (int k = -2; k <= 18; k++) {
                int want = k >= 0 && k < classes ? k : -1;
                Due.due("subtypeAt(0, " + k + ") of " + classes, x.subtypeAt(0, k), want);
            }
            Due.due("k MIN", x.subtypeAt(0, Integer.MIN_VALUE), -1);
            Due.due("k MAX", x.subtypeAt(0, Integer.MAX_VALUE), -1);
        }
    }

    /** No question changes anything: neither one that has an answer, nor one that is refused. */
    private static void askingChangesNothing() {
        State.due("questions", x -> {
            load(x, 3);
            x.put(0xCAFE00, 3);
            there(x, 2, 3);
            noClass(x, 3, 3);
            noClass(x, -1, 3);
            noText(x, 2, 4);
            noText(x, 2, -1);
            x.letter(3, -1);
            x.subtypeAt(3, -1);
            x.value(2, 3, 3, -1);
            Due.due("length()", x.length(), 3);
        }, x -> {
            load(x, 3);
            x.put(0xCAFE00, 3);
        });
    }
}
