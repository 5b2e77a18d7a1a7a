/** Promises 6 to 12: classes, texts, letter, find, name, flags, superName. */
public final class NamesTest {
    private static final int[] ABSENT = {-1, Integer.MIN_VALUE, Integer.MAX_VALUE, 192, 200, 1920};

    public static void main(String[] args) {
        textsInOrder();
        letters();
        classes();
        Due.finish();
    }

    private static void textsInOrder() {
        ClassFileIndex x = new ClassFileIndex();
        Files.load(x, "k:3 t:x t:A t:x t: i:7 t:AB", "0 1 0 0 0 0 0");
        Due.due("texts()", x.texts(), 4);
        Due.due("classes()", x.classes(), 1);
        Due.due("text 0", x.letter(0, 0), 'x');
        Due.due("text 1", x.letter(1, 0), 'A');
        Due.due("text 2 is empty", x.letter(2, 0), 0);
        Due.due("text 3", x.letter(3, 1), 'B');
        Due.due("text 4", x.letter(4, 0), -1);
        Files.load(x, "t: t:AB t:B k:3 t:A t:ABC", "0 4 0 0 0 0 0");
        Due.due("texts()", x.texts(), 6);
        Due.due("classes()", x.classes(), 2);
        Due.due("text 4", x.letter(4, 0), 'B');
        Due.due("text 5", x.letter(5, 2), 'C');
        Due.due("refused", Files.read(x, "t:C t:D k:1 t:E", "0 3 0 0 0 0 1"), -1021);
        Due.due("texts() after a refused file", x.texts(), 6);
        Due.due("classes() after a refused file", x.classes(), 2);
    }

    private static void letters() {
        ClassFileIndex x = new ClassFileIndex();
        Files.load(x, "t:abcdefghij k:1 t:! t:~z", "0 2 0 0 0 0 0");
        for (int i = 0; i < 10; i++) {
            Due.due("letter(0, " + i + ")", x.letter(0, i), 'a' + i);
        }
        Due.due("letter(0, 10)", x.letter(0, 10), 0);
        Due.due("letter(0, -1)", x.letter(0, -1), 0);
        Due.due("letter(0, MIN)", x.letter(0, Integer.MIN_VALUE), 0);
        Due.due("letter(0, MAX)", x.letter(0, Integer.MAX_VALUE), 0);
        Due.due("letter(1, 0)", x.letter(1, 0), 33);
        Due.due("letter(1, 1)", x.letter(1, 1), 0);
        Due.due("letter(1, -1)", x.letter(1, -1), 0);
        Due.due("letter(2, 0)", x.letter(2, 0), 126);
        Due.due("letter(2, 1)", x.letter(2, 1), 'z');
        Due.due("letter(2, 2)", x.letter(2, 2), 0);
        Due.due("letter(3, 0)", x.letter(3, 0), -1);
        for (int t : ABSENT) {
            Due.due("letter(" + t + ", 0)", x.letter(t, 0), -1);
            Due.due("letter(" + t + ", -1)", x.letter(t, -1), -1);
        }
    }

    private static void classes() {
        ClassFileIndex x = new ClassFileIndex();
        Files.load(x, "t:x t:A t:S k:2 k:3", "3 4 5 0 0 0 0");
        Files.load(x, "t:B k:1 t:A k:3", "0 2 4 0 0 0 0");
        Files.load(x, "t:C k:1 t:A k:3", "1 2 0 4 1 4 0 0");
        Files.load(x, "t:D k:1", "2 2 2 0 0 0 0");
        int[] names = {1, 3, 4, 5};
        int[] flags = {3, 0, 1, 2};
        int[] supers = {2, 1, -1, 5};
        for (int c = 0; c < 4; c++) {
            Due.due("name(" + c + ")", x.name(c), names[c]);
            Due.due("flags(" + c + ")", x.flags(c), flags[c]);
            Due.due("superName(" + c + ")", x.superName(c), supers[c]);
            Due.due("find of name " + c, x.find(names[c]), c);
        }
        Due.due("find of a text that names none", x.find(0), -1);
        Due.due("find of a missing super", x.find(2), -1);
        Due.due("find(6)", x.find(6), -1);
        Due.due("name(4)", x.name(4), -1);
        Due.due("flags(4)", x.flags(4), -1);
        Due.due("superName(4)", x.superName(4), -1);
        for (int a : ABSENT) {
            Due.due("find(" + a + ")", x.find(a), -1);
            Due.due("name(" + a + ")", x.name(a), -1);
            Due.due("flags(" + a + ")", x.flags(a), -1);
            Due.due("superName(" + a + ")", x.superName(a), -1);
        }
        Files.load(x, "t:S k:1", "0 2 0 0 0 0 0");
        Due.due("find of a super that was missing", x.find(2), 4);
    }
}
