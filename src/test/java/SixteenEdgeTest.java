import java.util.Arrays;

/** "there are at most 16": read() with 15 classes, with 16, and what changes then. */
public final class SixteenEdgeTest {
    private static final int[] RIGHT = Files.file("t:new k:1 t:more", "1 2 0 0 0 0 0");
    private static final int[] WRONG = Files.file("t:new k:1 t:more", "4 2 0 0 0 0 0");
    private static final int[] KNOWN = Files.file("t:c0 k:1", "1 2 0 0 0 0 0");

    public static void main(String[] args) {
        numbersUpToFifteen();
        refusedFileIsNoClass();
        sixteenChangeNothing();
        theBufferGoesOn();
        mostTexts();
        Due.finish();
    }

    /** Class i is named c and a letter, and stands under the class before it. */
    private static void load(ClassFileIndex x, int classes) {
        for (int i = 0; i < classes; i++) {
            String constants = "t:c" + (char) ('0' + i) + " k:1 t:c" + (char) ('0' + i - 1) + " k:3";
            Files.load(x, constants, i % 4 + " 2 4 0 0 1 4 1 3 c 2 0");
        }
    }

    private static ClassFileIndex with(int classes) {
        ClassFileIndex x = new ClassFileIndex();
        load(x, classes);
        return x;
    }

    private static void numbersUpToFifteen() {
        for (int classes = 0; classes <= 16; classes++) {
            ClassFileIndex x = with(classes);
            int textsBefore = x.texts();
            boolean full = classes == 16;
            Due.due("classes() with " + classes, x.classes(), classes);
            Due.due("read() with " + classes, Files.read(x, RIGHT), full ? -1 : classes);
            Due.due("classes() after it", x.classes(), full ? 16 : classes + 1);
            Due.due("texts() after it", x.texts(), full ? textsBefore : textsBefore + 2);
            Due.due("length() after it", x.length(), full ? RIGHT.length : 0);
            Due.due("name(15) after it", x.name(15), full ? 16 : classes == 15 ? textsBefore : -1);
            Due.due("name(16) after it", x.name(16), -1);
        }
    }

    /** Wrong files don't use the sixteen up, and are told wrong up to the last. */
    private static void refusedFileIsNoClass() {
        ClassFileIndex x = with(15);
        for (int i = 0; i < 20; i++) {
            Due.due("a wrong file with 15 classes", Files.read(x, WRONG), -(4000 + 3 + 7 + 6));
            Due.due("a known class with 15 classes", Files.read(x, KNOWN), -(9000 + 10));
            Due.due("read() of nothing with 15 classes", x.read(), -1000);
        }
        Due.due("a right file", Files.read(x, RIGHT), 15);
        Due.due("read() of nothing with 16 classes", x.read(), -1);
    }

    /** "With 16 classes there already: NONE, and nothing changes." */
    private static void sixteenChangeNothing() {
        int[] fullBuffer = Arrays.copyOf(RIGHT, 120);
        int[][] buffers = {{}, {0}, {202}, RIGHT, WRONG, KNOWN, fullBuffer};
        for (int[] bytes : buffers) {
            State.due("read() of " + bytes.length + " bytes with 16 classes", x -> {
                load(x, 16);
                Files.put(x, bytes);
                Due.due("read() with 16 classes", x.read(), -1);
                Due.due("read() again", x.read(), -1);
            }, x -> {
                load(x, 16);
                Files.put(x, bytes);
            });
        }
    }

    /** The bytes stay, and count for the next put; drop takes them away. */
    private static void theBufferGoesOn() {
        ClassFileIndex x = with(16);
        Files.put(x, new int[112]);
        Due.due("read()", x.read(), -1);
        Due.due("length()", x.length(), 112);
        Due.due("put of 8 more", x.put(1, 8), true);
        Due.due("read() of a full buffer", x.read(), -1);
        Due.due("length() of a full buffer", x.length(), 120);
        Due.due("put when full", x.put(1, 1), false);
        x.drop();
        Due.due("length() after drop", x.length(), 0);
        Due.due("read() after drop", x.read(), -1);
    }

    /** A file has at most 11 texts beside its class constant: 176 in all, the last one of ten letters. */
    private static void mostTexts() {
        ClassFileIndex x = new ClassFileIndex();
        for (int i = 0; i < 16; i++) {
            StringBuilder constants = new StringBuilder("k:12");
            for (int k = 0; k < 11; k++) {
                int rest = i == 15 && k == 10 ? 8 : 2;
                constants.append(" t:").append((char) ('a' + i)).append((char) ('a' + k)).append("~".repeat(rest));
            }
            Due.due("read() with 11 texts", Files.read(x, constants.toString(), "0 1 0 0 0 0 0"), i);
            Due.due("texts()", x.texts(), 11 * (i + 1));
        }
        for (int t = 0; t < 176; t++) {
            int i = t % 2;
            Due.due("letter(" + t + ", " + i + ")", x.letter(t, i), 'a' + (i == 0 ? t / 11 : t % 11));
        }
        Due.due("letter(175, 9)", x.letter(175, 9), '~');
        Due.due("letter(175, 10)", x.letter(175, 10), 0);
        Due.due("letter(174, 4)", x.letter(174, 4), 0);
        Due.due("letter(176, 0)", x.letter(176, 0), -1);
        Due.due("find(175)", x.find(175), 15);
        Due.due("find(176)", x.find(176), -1);
        Due.due("name(15)", x.name(15), 175);
    }
}
