/** Promise 18: value. */
public final class ValueTest {
    private static final long STEP = 1L << 32;

    public static void main(String[] args) {
        kinds();
        ints();
        firstOnes();
        defaults();
        paths();
        present();
        Due.finish();
    }

    private static void kinds() {
        ClassFileIndex x = new ClassFileIndex();
        // Texts: A 0, P 1, e 2, f 3, g 4, h 5.
        Files.load(x, "t:A k:1 t:P k:3 t:e t:f t:g t:h i:77",
                "0 2 0 0 0 1 4 4 5 I 9 6 s 8 7 c 4 8 [ 3 I 9 I 9 I 9 0");
        Due.due("int", x.value(0, 1, 2, 0), STEP + 77);
        Due.due("text", x.value(0, 1, 3, 0), 2 * STEP + 5);
        Due.due("class", x.value(0, 1, 4, 0), 3 * STEP + 1);
        Due.due("row", x.value(0, 1, 5, 0), 4 * STEP + 3);
        Due.due("no such element", x.value(0, 1, 0, 0), -1);
        Due.due("a value is read as no path", x.value(0, 1, 2, 1), -1);
        ClassFileIndex y = new ClassFileIndex();
        Files.load(y, "t:A k:1 t:P k:3 t:e t:Q k:6", "0 2 0 0 0 1 4 1 5 @ 7 2 5 @ 4 0 5 [ 0 0");
        Due.due("annotation", y.value(0, 1, 2, 0), 5 * STEP + 3);
        Due.due("annotation's first", y.value(0, 1, 2, 1), 5 * STEP + 1);
        Due.due("annotation's second", y.value(0, 1, 2, 2), 4 * STEP);
        Due.due("annotation's third", y.value(0, 1, 2, 3), -1);
    }

    private static void ints() {
        int[] numbers = {0, 1, -1, 255, 256, 65536, 16777216, Integer.MAX_VALUE, Integer.MIN_VALUE, -2, 0x12345678};
        for (int number : numbers) {
            ClassFileIndex x = new ClassFileIndex();
            Files.load(x, "t:A k:1 t:e i:" + number, "0 2 0 0 0 1 2 1 3 I 4 0");
            Due.due("int " + number, x.value(0, 0, 1, 0), STEP + (number & 0xFFFFFFFFL));
        }
    }

    /** The first annotation of the type, the first element of the name, the first default. */
    private static void firstOnes() {
        ClassFileIndex x = new ClassFileIndex();
        // Texts: A 0, P 1, e 2, f 3.
        Files.load(x, "t:A k:1 t:P k:3 t:e t:f i:1 i:2 i:3",
                "0 2 0 0 0 3 2 1 5 I 9 4 2 5 I 7 5 I 8 4 1 6 I 9 1 5 I 9");
        Due.due("first annotation, first element", x.value(0, 1, 2, 0), STEP + 1);
        Due.due("the second annotation's f", x.value(0, 1, 3, 0), -1);
        Due.due("A on A, its own e", x.value(0, 0, 2, 0), STEP + 3);
        Due.due("A on A, no f", x.value(0, 0, 3, 0), -1);
        Files.load(x, "t:P k:1 t:f t:e i:5 i:6", "0 2 0 0 0 0 4 3 I 5 4 I 6 3 I 6 1 I 5");
        Due.due("the declared one before the default", x.value(0, 1, 2, 0), STEP + 1);
        Due.due("the first default", x.value(0, 1, 3, 0), STEP + 5);
        Due.due("the default for P", x.value(0, 1, 1, 0), STEP + 5);
    }

    private static void defaults() {
        ClassFileIndex x = new ClassFileIndex();
        // Texts: A 0, P 1, e 2, v 3.
        Files.load(x, "t:A k:1 t:P k:3 t:e", "0 2 0 0 0 1 4 0 1 5 s 1");
        Due.due("P is missing", x.value(0, 1, 2, 0), -1);
        Files.load(x, "t:P k:1 t:e t:v", "0 2 0 0 0 0 2 3 [ 2 s 4 @ 2 1 4 c 2 1 [ 0");
        Due.due("P's default for e", x.value(0, 1, 2, 0), 4 * STEP + 2);
        Due.due("into the default", x.value(0, 1, 2, 1), 2 * STEP + 3);
        Due.due("into the default's annotation", x.value(0, 1, 2, 2), 5 * STEP + 1);
        Due.due("into the default's annotation, 1", x.value(0, 1, 2, 2 + 8), 3 * STEP + 1);
        Due.due("no defaults on the way", x.value(0, 1, 2, 2 + 16), -1);
        Due.due("P's default named P", x.value(0, 1, 1, 0), 4 * STEP);
        Due.due("no default for A", x.value(0, 1, 0, 0), -1);
        int[] absent = {-1, 4, 192, Integer.MIN_VALUE, Integer.MAX_VALUE};
        for (int a : absent) {
            Due.due("element " + a, x.value(0, 1, a, 0), -1);
            Due.due("type " + a, x.value(0, a, 2, 0), -1);
            Due.due("class " + a, x.value(a, 1, 2, 0), -1);
        }
        Due.due("a default alone is not present", x.value(1, 1, 2, 0), -1);
    }

    private static void paths() {
        ClassFileIndex x = new ClassFileIndex();
        // Texts: A 0, e 1. e = {{}, {7, {A(), 7}}, 8, {}}.
        Files.load(x, "t:A k:1 t:e i:7 i:8",
                "0 2 0 0 0 1 2 1 3 [ 4 [ 0 [ 2 I 4 [ 2 @ 2 0 I 4 I 5 [ 0 0");
        Due.due("0", x.value(0, 0, 1, 0), 4 * STEP + 4);
        Due.due("1", x.value(0, 0, 1, 1), 4 * STEP);
        Due.due("2", x.value(0, 0, 1, 2), 4 * STEP + 2);
        Due.due("3", x.value(0, 0, 1, 3), STEP + 8);
        Due.due("4", x.value(0, 0, 1, 4), 4 * STEP);
        for (int d = 5; d < 8; d++) {
            Due.due("d " + d, x.value(0, 0, 1, d), -1);
        }
        Due.due("into an empty row", x.value(0, 0, 1, 1 + 8), -1);
        Due.due("2, 1", x.value(0, 0, 1, 2 + 8), STEP + 7);
        Due.due("2, 2", x.value(0, 0, 1, 2 + 16), 4 * STEP + 2);
        Due.due("2, 3", x.value(0, 0, 1, 2 + 24), -1);
        Due.due("2, 2, 1", x.value(0, 0, 1, 2 + 16 + 64), 5 * STEP);
        Due.due("2, 2, 2", x.value(0, 0, 1, 2 + 16 + 128), STEP + 7);
        Due.due("2, 2, 1, 1", x.value(0, 0, 1, 2 + 16 + 64 + 512), -1);
        Due.due("into an int", x.value(0, 0, 1, 3 + 8), -1);
        Due.due("digit 0 first", x.value(0, 0, 1, 8), -1);
        Due.due("digit 0 between", x.value(0, 0, 1, 2 + 64), -1);
        Due.due("digit 0, far", x.value(0, 0, 1, 2 + 512), -1);
        Due.due("-1", x.value(0, 0, 1, -1), -1);
        Due.due("-7", x.value(0, 0, 1, -7), -1);
        Due.due("MIN", x.value(0, 0, 1, Integer.MIN_VALUE), -1);
        Due.due("MAX", x.value(0, 0, 1, Integer.MAX_VALUE), -1);
        Due.due("2^30", x.value(0, 0, 1, 1 << 30), -1);
    }

    /** The annotation looked at is the one that is present: inherited, and in no row. */
    private static void present() {
        ClassFileIndex x = new ClassFileIndex();
        // Texts: P 0, K 1, e 2, B 3, A 4.
        Files.load(x, "t:P k:1 t:K k:3 t:e i:1", "2 2 0 4 0 0 1 5 I 6");
        Files.load(x, "t:B k:1 t:P k:3 t:e i:5", "0 2 0 0 0 1 4 1 5 I 6 0");
        Files.load(x, "t:A k:1 t:B k:3 t:P k:5 t:K k:7 t:e i:9", "0 2 4 0 0 1 8 1 9 [ 1 @ 6 1 9 I 10 0");
        Due.due("A's P is B's, not the one in a row", x.value(2, 0, 2, 0), STEP + 5);
        Due.due("A's K", x.value(2, 1, 2, 1), 5 * STEP);
        Due.due("A's K, into", x.value(2, 1, 2, 1 + 8), STEP + 9);
        Due.due("P has no P", x.value(0, 0, 2, 0), -1);
        ClassFileIndex y = new ClassFileIndex();
        Files.load(y, "t:P k:1 t:e i:1", "1 2 0 0 0 0 1 3 I 4");
        Files.load(y, "t:B k:1 t:P k:3", "0 2 0 0 0 1 4 0 0");
        Files.load(y, "t:A k:1 t:B k:3", "0 2 4 0 0 0 0");
        Due.due("B's default", y.value(1, 0, 1, 0), STEP + 1);
        Due.due("not inherited", y.value(2, 0, 1, 0), -1);
    }
}
