/** "A value of depth 5 is wrong, whatever it is": all ways to depths 4 and 5, in annotations and defaults. */
public final class DepthEdgeTest {
    private static final long STEP = 1L << 32;
    /** Texts: A 0, e 1. */
    private static final String CONSTANTS = "t:A k:1 t:e i:7";
    private static final String IN_ANNOTATION = "0 2 0 0 0 1 2 1 3 ";
    private static final String IN_DEFAULT = "0 2 0 0 0 1 2 0 1 3 ";
    /** One value of each kind, with nothing inside. */
    private static final String[] LEAVES = {"I 4", "s 3", "c 2", "[ 0", "@ 2 0"};
    private static final long[] ANSWERS = {STEP + 7, 2 * STEP + 1, 3 * STEP, 4 * STEP, 5 * STEP};

    public static void main(String[] args) {
        for (int depth = 1; depth <= 4; depth++) {
            for (int way = 0; way < 1 << (depth - 1); way++) {
                right(way, depth);
            }
        }
        for (int way = 0; way < 16; way++) {
            tooDeep(IN_ANNOTATION, way);
            tooDeep(IN_DEFAULT, way);
        }
        depthIsNotCountedOn();
        faultsBeforeDepthFive();
        Due.finish();
    }

    /** Rows or annotations, by the bits of way, each around the next one: the value inside has that depth. */
    private static String around(int way, int depth) {
        StringBuilder words = new StringBuilder();
        for (int d = 1; d < depth; d++) {
            words.append((way >> (d - 1) & 1) == 0 ? "[ 1 " : "@ 2 1 3 ");
        }
        return words.toString();
    }

    private static void right(int way, int depth) {
        int path = 0;
        for (int d = 1; d < depth; d++) {
            path = 8 * path + 1;
        }
        for (int i = 0; i < LEAVES.length; i++) {
            String value = around(way, depth) + LEAVES[i];
            dueValue(IN_ANNOTATION + value + " 0", path, ANSWERS[i]);
            dueValue(IN_DEFAULT + value, path, ANSWERS[i]);
        }
    }

    private static void dueValue(String rest, int path, long want) {
        ClassFileIndex x = new ClassFileIndex();
        Due.due("read of .. " + rest, Files.read(x, CONSTANTS, rest), 0);
        Due.due("value by path " + path + " of .. " + rest, x.value(0, 0, 1, path), want);
        Due.due("one step more in .. " + rest, x.value(0, 0, 1, 8 * path + 1), -1);
    }

    private static void tooDeep(String until, int way) {
        String words = until + around(way, 5);
        int place = Files.file(CONSTANTS, words).length;
        Due.due("the end at .. " + words, Files.readNew(CONSTANTS, words), -(1000 + place));
        for (int b = 0; b <= 255; b++) {
            Due.due("read of .. " + words + b, Files.readNew(CONSTANTS, words + b), -(7000 + place));
        }
        for (String leaf : LEAVES) {
            Due.due("read of .. " + words + leaf, Files.readNew(CONSTANTS, words + leaf + " 0"), -(7000 + place));
        }
    }

    /** Values side by side have the same depth, and each annotation and default starts at depth 1. */
    private static void depthIsNotCountedOn() {
        String deep = "[ 1 [ 1 [ 1 I 4 ";
        String annotation = "2 1 3 " + deep;
        right("0 2 0 0 0 4 " + annotation.repeat(4) + "0");
        right("0 2 0 0 0 0 4 " + ("3 " + deep).repeat(4));
        right("0 2 0 0 0 1 2 1 3 [ 4 " + "[ 1 [ 1 I 4 ".repeat(4) + "1 3 " + deep);
        right("0 2 0 0 0 1 2 4 " + "3 @ 2 1 3 @ 2 1 3 @ 2 0 ".repeat(4) + "0");
    }

    private static void right(String rest) {
        Due.due("read of .. " + rest, Files.readNew(CONSTANTS, rest), 0);
    }

    private static void refused(String rest, int reason, int place) {
        Due.due("read of .. " + rest, Files.readNew(CONSTANTS, rest), -(1000 * reason + place));
    }

    /** Around a value of depth 5 the length, the type and the element's name come first. */
    private static void faultsBeforeDepthFive() {
        String three = IN_ANNOTATION + "[ 1 [ 1 [ 1 ";
        int place = Files.file(CONSTANTS, three).length;
        refused(three + "[ 5 I 4", 4, place + 1);
        refused(three + "@ 1 1 3 I 4", 6, place + 1);
        refused(three + "@ 2 5 3 I 4", 4, place + 2);
        refused(three + "@ 2 1 2 I 4", 6, place + 3);
        refused(three + "@ 2 1 3 I 4", 7, place + 4);
        refused(three + "9", 3, place);
        refused(three + "I 1", 6, place + 1);
    }
}
