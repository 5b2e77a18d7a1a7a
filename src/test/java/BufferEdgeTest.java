import java.util.Arrays;

/** The edges of promises 1 to 4: the buffer's 120 bytes, and the 1 to 8 bytes of one put. */
public final class BufferEdgeTest {
    private static final int[] FAR = {Integer.MAX_VALUE, Integer.MAX_VALUE - 119, Integer.MAX_VALUE - 7,
        Integer.MIN_VALUE, Integer.MIN_VALUE + 1, -120, -8, 120, 121, 256 + 1, 65536 + 8};

    public static void main(String[] args) {
        newObjectsAreEmptyAndApart();
        bytesOfOnePut();
        atMost120();
        farNumbersOfBytes();
        highestOfTheLowestBytesFirst();
        everyByteIsKept();
        refusedPutKeepsTheBytes();
        filesUpTo120Bytes();
        dropOfEmptyAndOfFull();
        lengthThroughout();
        Due.finish();
    }

    private static ClassFileIndex holding(int bytes) {
        ClassFileIndex x = new ClassFileIndex();
        Files.put(x, new int[bytes]);
        return x;
    }

    private static void newObjectsAreEmptyAndApart() {
        ClassFileIndex x = new ClassFileIndex();
        Files.load(x, "t:A k:1", "0 2 0 0 0 0 0");
        x.put(1, 8);
        ClassFileIndex y = new ClassFileIndex();
        Due.due("a second object: length()", y.length(), 0);
        Due.due("a second object: classes()", y.classes(), 0);
        Due.due("a second object: texts()", y.texts(), 0);
        y.put(1, 3);
        y.drop();
        Due.due("the first object: length()", x.length(), 8);
        Due.due("the first object: classes()", x.classes(), 1);
    }

    /** "n is not 1 .. 8" */
    private static void bytesOfOnePut() {
        for (int n = -3; n <= 12; n++) {
            boolean told = n >= 1 && n <= 8;
            ClassFileIndex x = new ClassFileIndex();
            Due.due("put(7, " + n + ")", x.put(7, n), told);
            Due.due("length() after put(7, " + n + ")", x.length(), told ? n : 0);
            ClassFileIndex y = holding(100);
            Due.due("with 100 bytes: put(7, " + n + ")", y.put(7, n), told);
            Due.due("with 100 bytes: length() after n " + n, y.length(), told ? 100 + n : 100);
        }
    }

    /** "or the buffer would hold more than 120" */
    private static void atMost120() {
        for (int held = 111; held <= 120; held++) {
            for (int n = 1; n <= 8; n++) {
                ClassFileIndex x = holding(held);
                boolean fits = held + n <= 120;
                Due.due(held + " held: put n " + n, x.put(-1, n), fits);
                Due.due(held + " held: length() after put n " + n, x.length(), fits ? held + n : held);
            }
        }
    }

    /** The sum of what is held and n must not wrap around. */
    private static void farNumbersOfBytes() {
        for (int held : new int[] {0, 1, 8, 119, 120}) {
            ClassFileIndex x = holding(held);
            for (int n : FAR) {
                Due.due(held + " held: put n " + n, x.put(1, n), false);
                Due.due(held + " held: length() after n " + n, x.length(), held);
            }
        }
    }

    /** What stands above the lowest n bytes isn't looked at. */
    private static void highestOfTheLowestBytesFirst() {
        int[] file = Files.file("t:abcdefghij k:1", "3 2 2 0 0 0 0");
        for (int n = 1; n <= 8; n++) {
            for (long above : new long[] {0, -1, 0x5A5A5A5A5A5A5A5AL}) {
                ClassFileIndex x = new ClassFileIndex();
                putInPieces(x, file, n, above);
                Due.due("pieces of " + n + ": length()", x.length(), file.length);
                Due.due("pieces of " + n + ": read()", x.read(), 0);
                for (int i = 0; i < 10; i++) {
                    Due.due("pieces of " + n + ": letter " + i, x.letter(0, i), 'a' + i);
                }
            }
        }
    }

    private static void putInPieces(ClassFileIndex x, int[] bytes, int most, long above) {
        for (int from = 0; from < bytes.length; from += most) {
            int n = Math.min(most, bytes.length - from);
            long number = above;
            for (int i = 0; i < n; i++) {
                number = number << 8 | bytes[from + i];
            }
            Due.due("put of a piece", x.put(number, n), true);
        }
    }

    /** "each 0 .. 255": seen through an int constant. */
    private static void everyByteIsKept() {
        for (int b = 0; b <= 255; b++) {
            int[] file = Files.file("t:A k:1 i:0", "0 2 0 0 0 1 2 1 1 I 3 0");
            Arrays.fill(file, 9, 13, b);
            ClassFileIndex x = new ClassFileIndex();
            Due.due("read() with bytes " + b, Files.read(x, file), 0);
            Due.due("an int of bytes " + b, x.value(0, 0, 0, 0), (1L << 32) + b * 0x01010101L);
        }
    }

    private static void refusedPutKeepsTheBytes() {
        int[] file = fileOf(120);
        for (int held : new int[] {0, 1, 60, 113, 119, 120}) {
            int[] first = Arrays.copyOf(file, held);
            int[] rest = Arrays.copyOfRange(file, held, file.length);
            State.due("refused puts with " + held + " held, then the rest", x -> {
                Files.put(x, first);
                putRefused(x, held);
                Files.put(x, rest);
            }, x -> Files.put(x, file));
            State.due("refused puts with " + held + " held", x -> {
                Files.put(x, first);
                putRefused(x, held);
            }, x -> Files.put(x, first));
        }
    }

    private static void putRefused(ClassFileIndex x, int held) {
        Due.due("put n 0", x.put(-1, 0), false);
        Due.due("put n 9", x.put(-1, 9), false);
        Due.due("put n -1", x.put(-1, -1), false);
        if (held > 112) {
            Due.due("put n " + (121 - held), x.put(-1, 121 - held), false);
        }
    }

    /** A right file of that many bytes, 111 to 120: with 11 constants, of which the last is the filling. */
    private static int[] fileOf(int length) {
        StringBuilder constants = new StringBuilder("t:A k:1");
        for (char letter = 'b'; letter < 'j'; letter++) {
            constants.append(" t:").append(String.valueOf(letter).repeat(10));
        }
        constants.append(" t:").append("z".repeat(length - 113));
        int[] file = Files.file(constants.toString(), "1 2 0 0 0 0 0");
        Due.due("a test's file of " + length, file.length, length);
        return file;
    }

    /** "The buffer holds at most 120 bytes": a file may fill it to the last place. */
    private static void filesUpTo120Bytes() {
        for (int length = 118; length <= 120; length++) {
            ClassFileIndex x = new ClassFileIndex();
            Due.due("a right file of " + length, Files.read(x, fileOf(length)), 0);
            Due.due("its last text", x.letter(9, length - 114), 'z');
            Due.due("beyond its last text", x.letter(9, length - 113), 0);
        }
        int[] file = fileOf(120);
        Due.due("119 of 120", Files.read(new ClassFileIndex(), Arrays.copyOf(file, 119)), -1119);
        int[] follows = Arrays.copyOf(fileOf(119), 120);
        Due.due("119 and one more", Files.read(new ClassFileIndex(), follows), -8119);
        file[119] = 1;
        Due.due("120 that need one more", Files.read(new ClassFileIndex(), file), -1120);
    }

    private static void dropOfEmptyAndOfFull() {
        for (int held : new int[] {0, 1, 119, 120}) {
            ClassFileIndex x = holding(held);
            x.drop();
            Due.due("length() after drop of " + held, x.length(), 0);
            x.drop();
            Due.due("length() after a second drop", x.length(), 0);
            Due.due("read() after drop of " + held, x.read(), -1000);
            Files.put(x, fileOf(120));
            Due.due("length() when full again", x.length(), 120);
            Due.due("put when full again", x.put(0, 1), false);
            Due.due("read() of a full buffer after drop of " + held, x.read(), 0);
        }
        State.due("drop keeps classes and texts", x -> {
            Files.load(x, "t:A k:1 t:e", "3 2 2 0 1 2 1 2 1 3 s 3 0");
            Files.put(x, new int[120]);
            x.drop();
        }, x -> Files.load(x, "t:A k:1 t:e", "3 2 2 0 1 2 1 2 1 3 s 3 0"));
    }

    private static void lengthThroughout() {
        ClassFileIndex x = new ClassFileIndex();
        for (int held = 0; held < 120; held++) {
            Due.due("length()", x.length(), held);
            x.put(held, 1);
        }
        Due.due("length() when full", x.length(), 120);
        Due.due("length() asked again", x.length(), 120);
        Due.due("read() of zeros", x.read(), -2000);
        Due.due("length() after read()", x.length(), 0);
    }
}
