/** The edges of promise 18: paths, defaults, elements that aren't there, and the answers' bounds. */
public final class ValueEdgeTest {
    private static final long STEP = 1L << 32;

    public static void main(String[] args) {
        intsAtTheirBounds();
        textAndClassNumbers();
        digitsIntoRows();
        digitsIntoAnnotations();
        nothingInsideOtherValues();
        digitZero();
        longestPaths();
        negativeAndFarPaths();
        firstAnnotationFirstElement();
        defaultsWhenThereIsNoElement();
        defaultsOfTheTypeAlone();
        noDefaultsOnTheWay();
        noTextElement();
        noneIsPresent();
        Due.finish();
    }

    /** A file of class A that has the annotation A with element e = value. Texts: A 0, e 1. */
    private static ClassFileIndex with(String value) {
        ClassFileIndex x = new ClassFileIndex();
        Files.load(x, "t:A k:1 t:e i:7 i:-8", "0 2 0 0 0 1 2 1 3 " + value + " 0");
        return x;
    }

    private static void dueByPath(ClassFileIndex x, int path, long want) {
        Due.due("value by path " + path, x.value(0, 0, 1, path), want);
    }

    /** "2^32 + its 32 bits as a number 0 .. 2^32 - 1" */
    private static void intsAtTheirBounds() {
        int[] ints = {0, 1, -1, Integer.MAX_VALUE, Integer.MIN_VALUE};
        long[] answers = {4294967296L, 4294967297L, 8589934591L, 6442450943L, 6442450944L};
        for (int i = 0; i < ints.length; i++) {
            ClassFileIndex x = new ClassFileIndex();
            Files.load(x, "t:A k:1 i:" + ints[i], "0 2 0 0 0 1 2 1 1 I 3 0");
            Due.due("the int " + ints[i], x.value(0, 0, 0, 0), answers[i]);
        }
    }

    /** Number 0, and the last of the 176 texts that can be. */
    private static void textAndClassNumbers() {
        ClassFileIndex x = with("[ 3 s 1 c 2 @ 2 0");
        dueByPath(x, 1, 2 * STEP);
        dueByPath(x, 2, 3 * STEP);
        dueByPath(x, 3, 5 * STEP);
        ClassFileIndex y = new ClassFileIndex();
        for (int i = 0; i < 15; i++) {
            String letter = String.valueOf((char) ('a' + i));
            StringBuilder constants = new StringBuilder("k:2");
            for (int k = 0; k < 11; k++) {
                constants.append(" t:").append(letter).append(k);
            }
            Files.load(y, constants.toString(), "0 1 0 0 0 0 0");
        }
        Files.load(y, "k:12 t:1 t:2 t:3 t:4 t:5 t:6 t:7 t:8 t:9 t:0 t:Z", "0 1 0 0 0 1 1 1 12 [ 3 s 12 c 1 @ 1 0 0");
        Due.due("texts()", y.texts(), 176);
        Due.due("the last text", y.value(15, 175, 175, 1), 2 * STEP + 175);
        Due.due("the last text as a class", y.value(15, 175, 175, 2), 3 * STEP + 175);
        Due.due("the last text as a type", y.value(15, 175, 175, 3), 5 * STEP + 175);
    }

    /** "d from 1 to the number of its values" */
    private static void digitsIntoRows() {
        for (int n = 0; n <= 4; n++) {
            ClassFileIndex x = with("[ " + n + " " + "I 4 I 5 s 1 s 3 ".substring(0, 4 * n));
            long[] inside = {STEP + 7, 2 * STEP - 8, 2 * STEP, 2 * STEP + 1};
            dueByPath(x, 0, 4 * STEP + n);
            for (int d = 1; d <= 7; d++) {
                dueByPath(x, d, d <= n ? inside[d - 1] : -1);
            }
        }
    }

    private static void digitsIntoAnnotations() {
        for (int n = 0; n <= 4; n++) {
            ClassFileIndex x = with("@ 2 " + n + " " + "1 I 4 3 I 5 3 s 1 1 s 3 ".substring(0, 6 * n));
            long[] inside = {STEP + 7, 2 * STEP - 8, 2 * STEP, 2 * STEP + 1};
            dueByPath(x, 0, 5 * STEP);
            for (int d = 1; d <= 7; d++) {
                dueByPath(x, d, d <= n ? inside[d - 1] : -1);
            }
        }
    }

    /** "the value must be a row or an annotation" */
    private static void nothingInsideOtherValues() {
        for (String value : new String[] {"I 4", "s 3", "c 2", "[ 0", "@ 2 0"}) {
            ClassFileIndex x = with(value);
            ClassFileIndex y = with("[ 1 " + value);
            for (int d = 1; d <= 7; d++) {
                dueByPath(x, d, -1);
                dueByPath(y, 1 + 8 * d, -1);
            }
        }
    }

    /** A digit 0 is a step like others as long as the path isn't 0 yet: none leads by it. */
    private static void digitZero() {
        ClassFileIndex x = with("[ 1 [ 1 [ 1 I 4");
        dueByPath(x, 1, 4 * STEP + 1);
        dueByPath(x, 8, -1);
        dueByPath(x, 64, -1);
        dueByPath(x, 8 + 64, -1);
        dueByPath(x, 1 + 64, -1);
        dueByPath(x, 1 + 512, -1);
        dueByPath(x, 1 + 8 + 512, -1);
        dueByPath(x, 1 + 8, 4 * STEP + 1);
        dueByPath(x, 1 + 8 + 64, STEP + 7);
        dueByPath(x, 1 + 8 + 64 + 4096, -1);
        ClassFileIndex y = with("I 4");
        dueByPath(y, 0, STEP + 7);
        dueByPath(y, 8, -1);
        dueByPath(y, 1 << 30, -1);
    }

    /** Depth 4 is three steps in; the lowest digit is the first step. */
    private static void longestPaths() {
        ClassFileIndex x = with("[ 2 s 1 [ 3 s 1 s 1 [ 4 s 1 s 1 s 1 I 4");
        dueByPath(x, 2 + 8 * 3 + 64 * 4, STEP + 7);
        dueByPath(x, 4 + 8 * 3 + 64 * 2, -1);
        dueByPath(x, 2 + 8 * 3 + 64 * 3, 2 * STEP);
        dueByPath(x, 2 + 8 * 3 + 64 * 5, -1);
        dueByPath(x, 2 + 8 * 4, -1);
        dueByPath(x, 3, -1);
        dueByPath(x, 2 + 8 * 3, 4 * STEP + 4);
        dueByPath(x, 2 + 8 * 3 + 64 * 4 + 512, -1);
        dueByPath(x, 2 + 8 * 3 + 64 * 4 + (1 << 30), -1);
    }

    private static void negativeAndFarPaths() {
        ClassFileIndex x = with("[ 4 [ 1 I 4 [ 1 I 4 [ 1 I 4 [ 1 I 4");
        int[] none = {-1, -2, -7, -8, -9, -64, Integer.MIN_VALUE, Integer.MIN_VALUE + 1, Integer.MIN_VALUE + 9,
            Integer.MAX_VALUE, 1 << 30, (1 << 30) + 1, (1 << 30) + 9, (1 << 27) + 9, 1227133513};
        for (int path : none) {
            dueByPath(x, path, -1);
        }
        dueByPath(x, 9, STEP + 7);
    }

    /** Texts: A 0, P 1, e 2; P twice, with e twice in the first of them. */
    private static void firstAnnotationFirstElement() {
        ClassFileIndex x = new ClassFileIndex();
        Files.load(x, "t:A k:1 t:P k:3 t:e i:1 i:2 i:3", "0 2 0 0 0 3 2 1 5 I 8 4 2 5 I 6 5 I 7 4 2 5 I 8 1 I 8 0");
        Due.due("the first of the first", x.value(0, 1, 2, 0), STEP + 1);
        Due.due("an element of the second only", x.value(0, 1, 0, 0), -1);
        Due.due("another type", x.value(0, 0, 2, 0), STEP + 3);
    }

    /** Texts: A 0, P 1, e 2, f 3, g 4. */
    private static void defaultsWhenThereIsNoElement() {
        ClassFileIndex x = new ClassFileIndex();
        Files.load(x, "t:A k:1 t:P k:3 t:e i:1 t:f t:g", "0 2 0 0 0 1 4 1 5 I 6 0");
        Due.due("e, P missing", x.value(0, 1, 2, 0), STEP + 1);
        Due.due("f, P missing", x.value(0, 1, 3, 0), -1);
        Files.load(x, "t:P k:1 t:e t:f i:5 i:6", "0 2 0 0 0 0 4 3 I 5 4 [ 1 I 6 4 I 5 1 I 5");
        Due.due("e: the element, not the default", x.value(0, 1, 2, 0), STEP + 1);
        Due.due("e: no way into the default", x.value(0, 1, 2, 1), -1);
        Due.due("f: the first default", x.value(0, 1, 3, 0), 4 * STEP + 1);
        Due.due("f: into the default", x.value(0, 1, 3, 1), STEP + 6);
        Due.due("f: beyond the default", x.value(0, 1, 3, 2), -1);
        Due.due("the fourth default", x.value(0, 1, 1, 0), STEP + 5);
        Due.due("g: neither", x.value(0, 1, 4, 0), -1);
    }

    /** Not those of the class that is asked, of the holder, or of a supertype. Texts: A 0, P 1, S 2, e 3. */
    private static void defaultsOfTheTypeAlone() {
        ClassFileIndex x = new ClassFileIndex();
        Files.load(x, "t:A k:1 t:P k:3 t:S k:5 t:e i:1", "0 2 6 0 0 1 4 0 1 7 I 8");
        Files.load(x, "t:S k:1 t:e i:2", "0 2 0 0 0 0 1 3 I 4");
        Files.load(x, "t:P k:1 t:S k:3", "0 2 4 4 1 4 0 0");
        Due.due("e", x.value(0, 1, 3, 0), -1);
        ClassFileIndex y = new ClassFileIndex();
        Files.load(y, "t:P k:1 t:e i:4", "2 2 0 0 0 1 2 0 1 3 I 4");
        Files.load(y, "t:A k:1 t:P k:3", "0 2 4 0 0 0 0");
        Due.due("P's own annotation with P's default", y.value(0, 0, 1, 0), STEP + 4);
        Due.due("the inherited one, too", y.value(1, 0, 1, 0), STEP + 4);
    }

    /** "an annotation's values are those of its elements, in their order, without defaults" */
    private static void noDefaultsOnTheWay() {
        ClassFileIndex x = new ClassFileIndex();
        Files.load(x, "t:A k:1 t:e i:4", "0 2 0 0 0 1 2 1 1 @ 2 0 2 3 I 4 1 I 4");
        Due.due("A in A", x.value(0, 0, 0, 0), 5 * STEP);
        Due.due("A's default for e", x.value(0, 0, 1, 0), STEP + 4);
        Due.due("no default in the inner A", x.value(0, 0, 0, 1), -1);
        Due.due("no second default in it", x.value(0, 0, 0, 2), -1);
    }

    /** "(or no text element): NONE"; the empty text is one, when it is there. Texts: A 0, empty 1. */
    private static void noTextElement() {
        ClassFileIndex x = new ClassFileIndex();
        Files.load(x, "t:A k:1 t:", "0 2 0 0 0 1 2 1 3 [ 1 s 3 0");
        for (int element : new int[] {-1, 2, 3, 192, Integer.MIN_VALUE, Integer.MAX_VALUE}) {
            for (int path = -1; path <= 2; path++) {
                Due.due("element " + element + ", path " + path, x.value(0, 0, element, path), -1);
            }
        }
        Due.due("the empty text as element", x.value(0, 0, 1, 0), 4 * STEP + 1);
        Due.due("the empty text as value", x.value(0, 0, 1, 1), 2 * STEP + 1);
        Due.due("a text that is no element", x.value(0, 0, 0, 0), -1);
    }

    /** "If holder(c, t) is NONE: NONE", defaults or not. Texts: P 0, K 1, e 2, A 3. */
    private static void noneIsPresent() {
        ClassFileIndex x = new ClassFileIndex();
        Files.load(x, "t:P k:1 t:K k:3 t:e i:4", "1 2 0 4 0 0 1 5 I 6");
        Files.load(x, "t:A k:1 t:P k:3 t:K k:5 t:e", "0 2 4 0 1 4 1 6 1 7 [ 1 @ 4 1 7 s 7 0");
        Due.due("P is counted at A", x.count(1, 0), 1);
        Due.due("P isn't present at A", x.value(1, 0, 2, 0), -1);
        Due.due("P isn't present at P", x.value(0, 0, 2, 0), -1);
        Due.due("K is present at A", x.value(1, 1, 2, 1 + 8), 2 * STEP + 2);
    }
}
