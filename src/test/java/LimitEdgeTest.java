/**
 * The greatest numbers that Terms tell for a file, each with all bytes 0 .. 255: up to the greatest
 * number the file is right and all of it can be asked for; beyond, the place of the number is told.
 */
public final class LimitEdgeTest {
    private static final long STEP = 1L << 32;
    /** Five classes A to E: texts 0 to 4, constants 2, 4, 6, 8 and 10. */
    private static final String FIVE = "t:A k:1 t:B k:3 t:C k:5 t:D k:7 t:E k:9";
    private static final int FIVE_FLAGS = 28;

    public static void main(String[] args) {
        for (int n = 0; n <= 255; n++) {
            constants(n);
            letters(n);
            flags(n);
            interfaces(n);
            annotations(n);
            elements(n);
            elementsInside(n);
            defaults(n);
            row(n);
            rowOfDepthFour(n);
            letterAt(n, 0);
            letterAt(n, 9);
        }
        fewConstants();
        Due.finish();
    }

    /** As many words as are told, but no more than the buffer has room for. */
    private static String some(int n, String... words) {
        StringBuilder all = new StringBuilder();
        for (int i = 0; i < Math.min(n, 12); i++) {
            all.append(' ').append(words[i % words.length]);
        }
        return all.append(' ').toString();
    }

    private static ClassFileIndex dueRead(String what, int n, int[] file, int want) {
        ClassFileIndex x = new ClassFileIndex();
        Due.due(n + " " + what + ": read()", Files.read(x, file), want);
        Due.due(n + " " + what + ": length()", x.length(), 0);
        Due.due(n + " " + what + ": classes()", x.classes(), want == 0 ? 1 : 0);
        return x;
    }

    /** "the number of constants (at most 12)" */
    private static void constants(int n) {
        if (n < 2) {
            return;
        }
        int[] file = Files.file("t:A k:1" + some(n - 2, "i:5"), "1 2 0 0 0 0 0");
        file[2] = n;
        dueRead("constants", n, file, n <= 12 ? 0 : -4002);
        int[] start = Files.bytes("202 254 " + n);
        dueRead("constants, then the end", n, start, n <= 12 ? -1003 : -4002);
    }

    /** Without a class constant there is no THIS; no constant at all is no fault of its own. */
    private static void fewConstants() {
        dueRead("constants", 0, Files.bytes("202 254 0"), -1003);
        dueRead("constants", 0, Files.bytes("202 254 0 0"), -1004);
        dueRead("constants", 0, Files.bytes("202 254 0 4"), -4003);
        dueRead("constants", 0, Files.bytes("202 254 0 0 0 0 0 0 0 0"), -6004);
        dueRead("constants", 0, Files.bytes("202 254 0 0 1 0 0 0 0 0"), -6004);
        dueRead("constant", 1, Files.file("t:A", "0 1 0 0 0 0 0"), -6007);
        dueRead("constant", 1, Files.file("i:5", "0 1 0 0 0 0 0"), -6009);
        dueRead("constant", 1, Files.file("k:1", "0 1 0 0 0 0 0"), -6004);
    }

    /** "1, a length (at most 10)" */
    private static void letters(int n) {
        int[] file = Files.file("t:A k:1 t:" + "b".repeat(Math.min(n, 90)), "1 2 0 0 0 0 0");
        file[9] = n;
        ClassFileIndex x = dueRead("letters", n, file, n <= 10 ? 0 : -4009);
        if (n <= 10) {
            Due.due(n + " letters: texts()", x.texts(), 2);
            Due.due(n + " letters: the last one", x.letter(1, n - 1), n == 0 ? 0 : 'b');
            Due.due(n + " letters: one more", x.letter(1, n), 0);
        }
    }

    /** "as many letters, each 33 .. 126": the first, and the last of ten. */
    private static void letterAt(int n, int i) {
        int[] file = Files.file("t:A k:1 t:bbbbbbbbbb", "1 2 0 0 0 0 0");
        file[10 + i] = n;
        boolean told = n >= 33 && n <= 126;
        ClassFileIndex x = dueRead("as letter " + i, n, file, told ? 0 : -(5010 + i));
        Due.due(n + " as letter " + i + ": letter", x.letter(1, i), told ? n : -1);
    }

    /** "the FLAGS (at most 3)" */
    private static void flags(int n) {
        ClassFileIndex x = dueRead("as flags", n, Files.file("t:A k:1", n + " 2 0 0 0 0 0"), n <= 3 ? 0 : -4008);
        Due.due(n + " as flags: flags(0)", x.flags(0), n <= 3 ? n : -1);
    }

    private static int want(int n, int place) {
        return n <= 4 ? 0 : -(4000 + FIVE_FLAGS + place);
    }

    /** "the number of interfaces (at most 4)" */
    private static void interfaces(int n) {
        int[] file = Files.file(FIVE, "0 2 0 0 " + n + some(n, "4", "6", "8", "10", "2") + "0 0");
        ClassFileIndex x = dueRead("interfaces", n, file, want(n, 4));
        for (int t = 0; t < 5; t++) {
            Due.due(n + " interfaces: subtype(0, " + t + ")", x.subtype(0, t), n <= 4 && t >= 1 && t <= n);
        }
    }

    /** "the number of ANNOTATIONS (at most 4)" */
    private static void annotations(int n) {
        int[] file = Files.file(FIVE, "0 2 0 0 0 " + n + some(n, "4 0", "6 0", "8 0", "10 0", "2 0") + "0");
        ClassFileIndex x = dueRead("annotations", n, file, want(n, 5));
        for (int t = 0; t < 5; t++) {
            boolean there = n <= 4 && t >= 1 && t <= n;
            Due.due(n + " annotations: holder(0, " + t + ")", x.holder(0, t), there ? 0 : -1);
            Due.due(n + " annotations: count(0, " + t + ")", x.count(0, t), there ? 1 : 0);
            Due.due(n + " annotations: meta(0, " + t + ")", x.meta(0, t), there);
        }
    }

    private static String named(int n) {
        return n + some(n, "3 c 2", "5 c 4", "7 c 6", "9 c 8", "1 c 10");
    }

    /** Element or default t has the class t - 1 as its value. */
    private static void dueNamed(String what, int n, ClassFileIndex x) {
        for (int t = 0; t < 5; t++) {
            boolean there = n <= 4 && t >= 1 && t <= n;
            Due.due(n + " " + what + ": value " + t, x.value(0, 0, t, 0), there ? 3 * STEP + t - 1 : -1);
        }
    }

    /** "the number of ELEMENTS (at most 4)" */
    private static void elements(int n) {
        int[] file = Files.file(FIVE, "0 2 0 0 0 1 2 " + named(n) + "0");
        dueNamed("elements", n, dueRead("elements", n, file, want(n, 7)));
    }

    /** The same for an annotation that is a value. */
    private static void elementsInside(int n) {
        int[] file = Files.file(FIVE, "0 2 0 0 0 1 2 1 1 @ 4 " + named(n) + "0");
        ClassFileIndex x = dueRead("elements inside", n, file, want(n, 11));
        Due.due(n + " elements inside: the annotation", x.value(0, 0, 0, 0), n <= 4 ? 5 * STEP + 1 : -1);
        for (int d = 1; d <= 5; d++) {
            Due.due(n + " elements inside: " + d, x.value(0, 0, 0, d), n <= 4 && d <= n ? 3 * STEP + d - 1 : -1);
        }
    }

    /** "the number of DEFAULTS (at most 4)" */
    private static void defaults(int n) {
        int[] file = Files.file(FIVE, "0 2 0 0 0 1 2 0 " + named(n));
        dueNamed("defaults", n, dueRead("defaults", n, file, want(n, 8)));
    }

    /** "91, a length (at most 4)" */
    private static void row(int n) {
        int[] file = Files.file(FIVE, "0 2 0 0 0 1 2 1 1 [ " + n + some(n, "c 2", "c 4", "c 6", "c 8", "c 10") + "0");
        ClassFileIndex x = dueRead("values in a row", n, file, want(n, 10));
        Due.due(n + " values in a row: the row", x.value(0, 0, 0, 0), n <= 4 ? 4 * STEP + n : -1);
        for (int d = 1; d <= 5; d++) {
            Due.due(n + " values in a row: " + d, x.value(0, 0, 0, d), n <= 4 && d <= n ? 3 * STEP + d - 1 : -1);
        }
    }

    /** Its length is looked at before a value in it has depth 5. */
    private static void rowOfDepthFour(int n) {
        int[] file = Files.file(FIVE, "0 2 0 0 0 0 1 1 [ 1 [ 1 [ 1 [ " + n + some(n, "c 2"));
        int want = n == 0 ? 0 : n <= 4 ? -(7000 + FIVE_FLAGS + 16) : -(4000 + FIVE_FLAGS + 15);
        dueRead("values in a row of depth 4", n, file, want);
    }
}
