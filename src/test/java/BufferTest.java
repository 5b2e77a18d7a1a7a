/** Promises 1 to 4: a new object, put, drop, length. */
public final class BufferTest {
    public static void main(String[] args) {
        newObject();
        order();
        numberOfBytes();
        full();
        dropping();
        Due.finish();
    }

    private static void newObject() {
        ClassFileIndex x = new ClassFileIndex();
        Due.due("NONE", ClassFileIndex.NONE, -1);
        Due.due("new: length()", x.length(), 0);
        Due.due("new: classes()", x.classes(), 0);
        Due.due("new: texts()", x.texts(), 0);
        int[] numbers = {Integer.MIN_VALUE, -1, 0, 1, 15, 16, 191, 192, Integer.MAX_VALUE};
        for (int a : numbers) {
            Due.due("new: find " + a, x.find(a), -1);
            Due.due("new: name " + a, x.name(a), -1);
            Due.due("new: flags " + a, x.flags(a), -1);
            Due.due("new: superName " + a, x.superName(a), -1);
            for (int b : numbers) {
                Due.due("new: letter " + a + " " + b, x.letter(a, b), -1);
                Due.due("new: subtype " + a + " " + b, x.subtype(a, b), false);
                Due.due("new: subtypeAt " + a + " " + b, x.subtypeAt(a, b), -1);
                Due.due("new: holder " + a + " " + b, x.holder(a, b), -1);
            }
        }
        ClassFileIndex y = new ClassFileIndex();
        for (int a : numbers) {
            for (int b : numbers) {
                Due.due("new: count " + a + " " + b, y.count(a, b), 0);
                Due.due("new: meta " + a + " " + b, y.meta(a, b), false);
                Due.due("new: value " + a + " " + b, y.value(a, b, a, b), -1);
            }
        }
        Due.due("new: read()", y.read(), -1000);
    }

    /** The highest of the lowest n bytes comes first: seen through where a file turns wrong. */
    private static void order() {
        ClassFileIndex x = new ClassFileIndex();
        Due.due("put high first", x.put(0x1122CAFEL, 2), true);
        Due.due("length()", x.length(), 2);
        Due.due("read() after ca fe", x.read(), -1002);
        x.put(0xFECAL, 2);
        Due.due("read() after fe ca", x.read(), -2000);
        x.put(0xCAFE0101417F7F7FL, 8);
        Due.due("read() of eight bytes", x.read(), -4004);
        x.put(-1L, 8);
        Due.due("bytes are 0 to 255", x.read(), -2000);
        x.put(0xCAFEFFL, 3);
        Due.due("255 is not negative", x.read(), -4002);
        x.put(0xCAL, 1);
        x.put(0xFEL, 1);
        x.put(0x00L, 1);
        Due.due("one after the other", x.read(), -1003);
    }

    private static void numberOfBytes() {
        ClassFileIndex x = new ClassFileIndex();
        int[] wrong = {0, -1, 9, 16, -8, Integer.MIN_VALUE, Integer.MAX_VALUE};
        for (int n : wrong) {
            Due.due("put n " + n, x.put(1, n), false);
            Due.due("length() after put n " + n, x.length(), 0);
        }
        int sum = 0;
        for (int n = 1; n <= 8; n++) {
            Due.due("put n " + n, x.put(1, n), true);
            sum += n;
            Due.due("length() after put n " + n, x.length(), sum);
        }
        Due.due("put n MAX on a buffer that holds some", x.put(1, Integer.MAX_VALUE), false);
        Due.due("length()", x.length(), sum);
    }

    private static void full() {
        ClassFileIndex x = new ClassFileIndex();
        for (int i = 0; i < 14; i++) {
            x.put(i, 8);
        }
        x.put(0, 7);
        Due.due("length()", x.length(), 119);
        Due.due("put beyond 120", x.put(0, 2), false);
        Due.due("length() after a refused put", x.length(), 119);
        Due.due("put up to 120", x.put(0, 1), true);
        Due.due("length() when full", x.length(), 120);
        Due.due("put when full", x.put(0, 1), false);
        Due.due("length() when full", x.length(), 120);
        Due.due("put 8 when full", x.put(0, 8), false);
    }

    private static void dropping() {
        ClassFileIndex x = new ClassFileIndex();
        x.drop();
        Due.due("length() after drop of nothing", x.length(), 0);
        x.put(0x01, 1);
        x.drop();
        Due.due("length() after drop", x.length(), 0);
        Files.put(x, Files.file("t:A k:1", "0 2 0 0 0 0 0"));
        Due.due("read() after drop starts anew", x.read(), 0);
        x.put(7, 3);
        x.drop();
        Due.due("drop keeps classes", x.classes(), 1);
        Due.due("drop keeps texts", x.texts(), 1);
        for (int i = 0; i < 15; i++) {
            x.put(i, 8);
        }
        x.drop();
        Due.due("put after drop of a full buffer", x.put(1, 8), true);
        Due.due("length()", x.length(), 8);
    }
}
