/**
 * The constants: their kinds, the numbers by which the file tells of them, and the texts that name
 * classes. Each place in a file where a constant's number stands is tried with all bytes 0 .. 255.
 */
public final class ConstantEdgeTest {
    /** Twelve constants, so that 12 is there and 13 is not: six texts (two empty), classes and ints. */
    private static final String TWELVE = "t:A k:1 i:7 t: k:6 t:B i:8 t:e k:12 t: i:9 t:C";
    private static final String TEXTS = " 1 4 6 8 10 12 ";
    private static final String CLASSES = " 2 5 9 ";
    private static final String INTS = " 3 7 11 ";
    private static final int FLAGS = 40;

    public static void main(String[] args) {
        headNumbers();
        annotationNumbers();
        valueNumbers();
        defaultNumbers();
        firstBytesOfConstants();
        classNames();
        classNameMayComeLater();
        laterClassesAreNotNames();
        fewerConstantsThanTheFileBefore();
        Due.finish();
    }

    private static boolean in(String kind, int k) {
        return kind.contains(" " + k + " ");
    }

    /** The words have a ? where a number of a constant of that kind is due. */
    private static void dueOnly(String kind, String words) {
        int place = FLAGS;
        for (String word : words.split(" ")) {
            if (word.equals("?")) {
                break;
            }
            place++;
        }
        for (int k = 0; k <= 255; k++) {
            String rest = words.replace("?", String.valueOf(k));
            Due.due("read of .. " + rest, Files.readNew(TWELVE, rest), in(kind, k) ? 0 : -(6000 + place));
        }
    }

    /** "THIS: a class constant's number; SUPER: .. or 0 for none; CONTAINER: likewise" */
    private static void headNumbers() {
        dueOnly(CLASSES, "0 ? 0 0 0 0 0");
        dueOnly(CLASSES + "0 ", "0 2 ? 0 0 0 0");
        dueOnly(CLASSES + "0 ", "0 2 0 ? 0 0 0");
        dueOnly(CLASSES, "0 2 0 0 1 ? 0 0");
        dueOnly(CLASSES, "0 2 0 0 4 2 5 9 ? 0 0");
    }

    private static void annotationNumbers() {
        dueOnly(CLASSES, "0 2 0 0 0 1 ? 0 0");
        dueOnly(CLASSES, "0 2 0 0 0 4 2 0 5 0 9 0 ? 0 0");
        dueOnly(TEXTS, "0 2 0 0 0 1 2 1 ? I 3 0");
        dueOnly(TEXTS, "0 2 0 0 0 1 2 4 8 I 3 8 s 4 8 c 2 ? I 3 0");
    }

    private static void valueNumbers() {
        dueOnly(INTS, "0 2 0 0 0 1 2 1 8 I ? 0");
        dueOnly(TEXTS, "0 2 0 0 0 1 2 1 8 s ? 0");
        dueOnly(CLASSES, "0 2 0 0 0 1 2 1 8 c ? 0");
        dueOnly(CLASSES, "0 2 0 0 0 1 2 1 8 @ ? 0 0");
        dueOnly(TEXTS, "0 2 0 0 0 1 2 1 8 @ 2 1 ? I 3 0");
        dueOnly(INTS, "0 2 0 0 0 1 2 1 8 [ 4 I 3 s 8 c 2 I ? 0");
    }

    private static void defaultNumbers() {
        dueOnly(TEXTS, "0 2 0 0 0 0 1 ? I 3");
        dueOnly(TEXTS, "0 2 0 0 0 0 4 8 I 3 8 I 3 8 I 3 ? I 3");
        dueOnly(INTS, "0 2 0 0 0 0 1 8 I ?");
        dueOnly(CLASSES, "0 2 0 0 0 0 1 8 c ?");
    }

    /** "A CONSTANT is one of: 1, .. 3 .. 7": the first of them, and the twelfth. */
    private static void firstBytesOfConstants() {
        String eleven = "1 1 65 7 1" + " 1 0".repeat(9);
        for (int b = 0; b <= 255; b++) {
            boolean told = b == 1 || b == 3 || b == 7;
            int first = Files.read(new ClassFileIndex(), Files.bytes("202 254 12 " + b));
            Due.due("first constant's byte " + b, first, told ? -1004 : -3003);
            int last = Files.read(new ClassFileIndex(), Files.bytes("202 254 12 " + eleven + " " + b));
            Due.due("twelfth constant's byte " + b, last, told ? -1027 : -3026);
        }
    }

    /** "the number of a text constant that isn't empty" */
    private static void classNames() {
        String named = " 1 6 8 12 ";
        for (int k = 0; k <= 255; k++) {
            String constants = TWELVE.replace("k:6", "k:" + k);
            int want = in(named, k) ? 0 : -6016;
            Due.due("read of " + constants, Files.readNew(constants, "0 2 0 0 0 0 0"), want);
        }
    }

    /** "(it may come later)": from the first to the twelfth constant, and the other way. */
    private static void classNameMayComeLater() {
        String between = " i:1 i:2 i:3 t: t: t: t: t: t: t: ";
        ClassFileIndex x = new ClassFileIndex();
        Due.due("name comes last", Files.read(x, "k:12" + between + "t:A", "0 1 0 0 0 0 0"), 0);
        Due.due("its name", x.letter(x.name(0), 0), 'A');
        Due.due("name came first", Files.read(x, "t:B" + between + "k:1", "0 12 12 0 0 0 0"), 1);
        Due.due("its name", x.letter(x.name(1), 0), 'B');
        Due.due("its super", x.letter(x.superName(1), 0), 'B');
        for (int k = 0; k <= 255; k++) {
            int want = k == 12 ? 0 : -6004;
            Due.due("first, k:" + k, Files.readNew("k:" + k + between + "t:A", "0 1 0 0 0 0 0"), want);
            int atLast = Files.readNew("t:A k:1" + " t:".repeat(9) + " k:" + k, "0 2 0 0 0 0 0");
            Due.due("last, k:" + k, atLast, k == 1 ? 0 : -6027);
        }
    }

    /** A class constant is no text, even one whose own name is known by then. */
    private static void laterClassesAreNotNames() {
        Due.due("a class names a class", Files.readNew("t:A k:1 k:2", "0 2 0 0 0 0 0"), -6009);
        Due.due("a later class names a class", Files.readNew("k:2 k:3 t:A", "0 2 0 0 0 0 0"), -6004);
        Due.due("a class names itself", Files.readNew("k:1 t:A", "0 1 0 0 0 0 0"), -6004);
        Due.due("a text of one letter", Files.readNew("k:2 t:!", "0 1 0 0 0 0 0"), 0);
        Due.due("an empty text", Files.readNew("k:2 t:", "0 1 0 0 0 0 0"), -6004);
    }

    /** What the constants of an earlier file were, right or wrong, tells nothing of this one's. */
    private static void fewerConstantsThanTheFileBefore() {
        ClassFileIndex x = new ClassFileIndex();
        Files.load(x, TWELVE, "0 2 0 0 0 0 0");
        Due.due("THIS 5 of two", Files.read(x, "t:D k:1", "0 5 0 0 0 0 0"), -6009);
        Due.due("a name 6 of two", Files.read(x, "t:D k:6", "0 2 0 0 0 0 0"), -6007);
        Due.due("wrong file", Files.read(x, TWELVE, "9"), -4040);
        Due.due("a value 3 of two", Files.read(x, "t:D k:1", "0 2 0 0 0 0 1 1 I 3"), -6017);
        Due.due("right file", Files.read(x, "t:D k:1", "0 2 0 0 0 0 0"), 1);
    }
}
