/** The numbers of texts, their letters, and texts that name no class: promises 7, 8 and 9, and Terms. */
public final class TextEdgeTest {
    public static void main(String[] args) {
        orderOfConstants();
        knownInTheSameFile();
        knownFromAnotherFile();
        emptyText();
        nearlyTheSame();
        lettersOfEveryLength();
        farLetters();
        refusedTextsLeaveNothing();
        longerTextAfterRefusedOnes();
        textThatNamesNoClass();
        Due.finish();
    }

    /** "in the order of the files and of the constants in each": not of their use, and used or not. */
    private static void orderOfConstants() {
        ClassFileIndex x = new ClassFileIndex();
        Due.due("texts() of a new object", x.texts(), 0);
        Files.load(x, "k:5 t:d i:1 t:c t:b k:2 t:a", "0 1 6 0 0 0 0");
        dueFirstLetters(x, "dcba");
        Due.due("name(0)", x.name(0), 2);
        Due.due("superName(0)", x.superName(0), 0);
        Files.load(x, "t:f k:1 t:e", "0 2 0 0 0 0 0");
        dueFirstLetters(x, "dcbafe");
    }

    private static void dueFirstLetters(ClassFileIndex x, String letters) {
        Due.due("texts() for " + letters, x.texts(), letters.length());
        for (int t = 0; t < letters.length(); t++) {
            Due.due("text " + t + " of " + letters, x.letter(t, 0), letters.charAt(t));
        }
        Due.due("no text more than " + letters, x.letter(letters.length(), 0), -1);
    }

    /** "a text that has a number already doesn't get another one" */
    private static void knownInTheSameFile() {
        ClassFileIndex x = new ClassFileIndex();
        Files.load(x, "t:A t:B t:A t:A k:4 t:C t:B k:7", "0 5 8 0 0 1 5 1 3 s 7 0");
        dueFirstLetters(x, "ABC");
        Due.due("named by the third A", x.name(0), 0);
        Due.due("find(A)", x.find(0), 0);
        Due.due("the second B as super", x.superName(0), 1);
        Due.due("the second A as element, the second B as value", x.value(0, 0, 0, 0), (2L << 32) + 1);
    }

    private static void knownFromAnotherFile() {
        ClassFileIndex x = new ClassFileIndex();
        Files.load(x, "t:A k:1 t:B", "0 2 0 0 0 0 0");
        Files.load(x, "t:C t:B k:2 t:A k:4", "0 3 5 0 0 0 0");
        dueFirstLetters(x, "ABC");
        Due.due("name(1)", x.name(1), 1);
        Due.due("superName(1)", x.superName(1), 0);
        Files.load(x, "t:C k:1 t:A t:B", "0 2 0 0 0 0 0");
        dueFirstLetters(x, "ABC");
        Due.due("all texts were known", x.name(2), 2);
    }

    /** The empty text is a text like others, but can't name a class. */
    private static void emptyText() {
        ClassFileIndex x = new ClassFileIndex();
        Files.load(x, "t: t:A k:2 t:", "0 3 0 0 0 1 3 1 1 s 4 0");
        Due.due("texts()", x.texts(), 2);
        for (int i = -1; i <= 1; i++) {
            Due.due("letter(0, " + i + ")", x.letter(0, i), 0);
        }
        Due.due("find of the empty text", x.find(0), -1);
        Due.due("the empty text as element and value", x.value(0, 1, 0, 0), 2L << 32);
        Files.load(x, "t:B t: k:1", "0 3 0 0 0 0 0");
        Due.due("texts()", x.texts(), 3);
        Due.due("a class named by the empty text", Files.read(x, "t: k:1", "0 2 0 0 0 0 0"), -6006);
    }

    /** One letter more or less, and one letter other, make another text. */
    private static void nearlyTheSame() {
        String[] texts = {"a", "A", "aa", "ab", "b", "aaaaaaaaa", "aaaaaaaaaa", "baaaaaaaaa", "aaaaaaaaab", "!", "~"};
        ClassFileIndex x = new ClassFileIndex();
        for (int i = 0; i < texts.length; i++) {
            Due.due("read of " + texts[i], Files.read(x, "t:" + texts[i] + " k:1", "0 2 0 0 0 0 0"), i);
            Due.due("texts() with " + texts[i], x.texts(), i + 1);
            Due.due("again " + texts[i], Files.read(x, "t:" + texts[i] + " k:1", "0 2 0 0 0 0 0"), -(9003 + 5
                    + texts[i].length()));
        }
        for (int i = 0; i < texts.length; i++) {
            Due.due("find of " + texts[i], x.find(i), i);
            Due.due("name of " + texts[i], x.name(i), i);
        }
    }

    /** "0 when it has not so many or i is negative" */
    private static void lettersOfEveryLength() {
        for (int length = 0; length <= 10; length++) {
            ClassFileIndex x = new ClassFileIndex();
            Files.load(x, "t:X k:1 t:" + "abcdefghij".substring(0, length) + " t:ZZZZZZZZZZ", "0 2 0 0 0 0 0");
            for (int i = -2; i <= 21; i++) {
                boolean there = i >= 0 && i < length;
                Due.due("letter " + i + " of " + length, x.letter(1, i), there ? 'a' + i : 0);
            }
            Due.due("the text behind", x.letter(2, 0), 'Z');
        }
    }

    /** Numbers so far off that a product or a sum with them wraps around. */
    private static void farLetters() {
        ClassFileIndex x = new ClassFileIndex();
        Files.load(x, "t:abcdefghij k:1 t:klmnopqrst", "0 2 0 0 0 0 0");
        int[] far = {Integer.MAX_VALUE, Integer.MIN_VALUE, Integer.MIN_VALUE + 1, -10, -11, 1 << 30, 1 << 31,
            Integer.MAX_VALUE - 9, -20, 192, 1920};
        for (int a : far) {
            Due.due("letter(0, " + a + ")", x.letter(0, a), 0);
            Due.due("letter(1, " + a + ")", x.letter(1, a), 0);
            Due.due("letter(" + a + ", 0)", x.letter(a, 0), -1);
            Due.due("letter(" + a + ", " + a + ")", x.letter(a, a), -1);
            Due.due("find(" + a + ")", x.find(a), -1);
        }
        Due.due("letter(-1, -1): no text comes before no letter", x.letter(-1, -1), -1);
        Due.due("letter(2, -1)", x.letter(2, -1), -1);
        Due.due("letter(2, 10)", x.letter(2, 10), -1);
    }

    /** A longer text of a wrong file leaves no letters behind, and no name. */
    private static void refusedTextsLeaveNothing() {
        ClassFileIndex x = new ClassFileIndex();
        Due.due("wrong file", Files.read(x, "t:abcdefghij k:1 t:klmnopqrst", "0 2 0 0 0 0 0 0"), -8036);
        Due.due("texts()", x.texts(), 0);
        Due.due("letter(0, 0)", x.letter(0, 0), -1);
        Files.load(x, "t:x k:1 t:y", "0 2 0 0 0 0 0");
        Due.due("letter(0, 0)", x.letter(0, 0), 'x');
        Due.due("letter(0, 1)", x.letter(0, 1), 0);
        Due.due("letter(1, 0)", x.letter(1, 0), 'y');
        Due.due("letter(1, 1)", x.letter(1, 1), 0);
        Due.due("wrong file that has the text again", Files.read(x, "t:y k:1 t:z", "0 2 0 0 0 0 1"), -1018);
        Due.due("find(1)", x.find(1), -1);
        Due.due("texts()", x.texts(), 2);
        Due.due("the text of a wrong file", Files.read(x, "t:z k:1 t:y k:3", "0 2 4 0 0 0 0"), 1);
        Due.due("texts()", x.texts(), 3);
        Due.due("name(1)", x.name(1), 2);
    }

    /** The letters of a wrong file's text don't make a shorter text, at its place, the longer one again. */
    private static void longerTextAfterRefusedOnes() {
        ClassFileIndex x = new ClassFileIndex();
        Due.due("wrong ab", Files.read(x, "t:ab k:1", "4 2 0 0 0 0 0"), -4009);
        Due.due("a", Files.read(x, "t:a k:1", "0 2 0 0 0 0 0"), 0);
        Due.due("ab", Files.read(x, "t:ab k:1", "0 2 0 0 0 0 0"), 1);
        Due.due("texts()", x.texts(), 2);
        Due.due("letter(0, 1)", x.letter(0, 1), 0);
        Due.due("letter(1, 1)", x.letter(1, 1), 'b');
    }

    /** "such a text may name no class": a super, an interface, a container, an annotation's type. */
    private static void textThatNamesNoClass() {
        ClassFileIndex x = new ClassFileIndex();
        // Texts: A 0, S 1, I 2, K 3, T 4.
        Files.load(x, "t:A k:1 t:S k:3 t:I k:5 t:K k:7 t:T k:9", "0 2 4 8 1 6 1 10 0 0");
        for (int t = 1; t < 5; t++) {
            Due.due("find(" + t + ")", x.find(t), -1);
        }
        Due.due("superName(0)", x.superName(0), 1);
        Due.due("subtype(0, S)", x.subtype(0, 1), true);
        Due.due("subtype(0, I)", x.subtype(0, 2), true);
        Due.due("subtype(0, K)", x.subtype(0, 3), false);
        Due.due("subtypeAt(S, 0)", x.subtypeAt(1, 0), 0);
        Due.due("subtypeAt(I, 0)", x.subtypeAt(2, 0), 0);
        Due.due("holder(0, T)", x.holder(0, 4), 0);
        Due.due("count(0, T)", x.count(0, 4), 1);
        Due.due("meta(0, T)", x.meta(0, 4), true);
        Due.due("value(0, T, A, 0)", x.value(0, 4, 0, 0), -1);
        String[] later = {"S", "I", "K", "T"};
        for (int i = 0; i < 4; i++) {
            Files.load(x, "t:" + later[i] + " k:1", "0 2 0 0 0 0 0");
            Due.due("find of " + later[i], x.find(i + 1), i + 1);
            Due.due("texts()", x.texts(), 5);
        }
    }
}
