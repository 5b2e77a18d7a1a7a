/** Promises 13 and 14: subtype, subtypeAt. */
public final class SupertypesTest {
    public static void main(String[] args) {
        directAndMissing();
        fillingGaps();
        circles();
        longChain();
        listing();
        Due.finish();
    }

    private static void directAndMissing() {
        ClassFileIndex x = new ClassFileIndex();
        // Texts: A 0, S 1, I 2, J 3, K 4, e 5.
        Files.load(x, "t:A k:1 t:S k:3 t:I k:5 t:J k:7 t:K k:9 t:e",
                "0 2 4 10 2 6 8 1 10 0 0");
        boolean[] due = {false, true, true, true, false, false, false};
        for (int t = 0; t < due.length; t++) {
            Due.due("subtype(0, " + t + ")", x.subtype(0, t), due[t]);
        }
        Due.due("subtype(0, -1)", x.subtype(0, -1), false);
        Due.due("subtype(-1, 1)", x.subtype(-1, 1), false);
        Due.due("subtype(1, 1)", x.subtype(1, 1), false);
        Due.due("subtype(MAX, 1)", x.subtype(Integer.MAX_VALUE, 1), false);
        Due.due("subtype(0, MAX)", x.subtype(0, Integer.MAX_VALUE), false);
        ClassFileIndex y = new ClassFileIndex();
        Files.load(y, "t:A k:1", "0 2 0 0 0 0 0");
        Due.due("no super is no text", y.subtype(0, -1), false);
        Due.due("no class is its own supertype", y.subtype(0, 0), false);
        Due.due("subtypeAt(-1, 0)", y.subtypeAt(-1, 0), -1);
    }

    /** A -> B -> C by super, C -> D by interface; B comes last. */
    private static void fillingGaps() {
        ClassFileIndex x = new ClassFileIndex();
        Files.load(x, "t:A k:1 t:B k:3", "0 2 4 0 0 0 0");
        Files.load(x, "t:C k:1 t:D k:3", "0 2 0 0 1 4 0 0");
        Due.due("A under B", x.subtype(0, 1), true);
        Due.due("A under C, B missing", x.subtype(0, 2), false);
        Due.due("C under D", x.subtype(1, 3), true);
        Due.due("D, k 0", x.subtypeAt(3, 0), 1);
        Due.due("D, k 1", x.subtypeAt(3, 1), -1);
        Files.load(x, "t:B k:1 t:C k:3", "0 2 0 0 1 4 0 0");
        Due.due("A under C", x.subtype(0, 2), true);
        Due.due("A under D", x.subtype(0, 3), true);
        Due.due("A not under A", x.subtype(0, 0), false);
        Due.due("C not under B", x.subtype(1, 1), false);
        Due.due("B under D", x.subtype(2, 3), true);
        Due.due("D, k 0", x.subtypeAt(3, 0), 0);
        Due.due("D, k 1", x.subtypeAt(3, 1), 1);
        Due.due("D, k 2", x.subtypeAt(3, 2), 2);
        Due.due("D, k 3", x.subtypeAt(3, 3), -1);
    }

    private static void circles() {
        ClassFileIndex x = new ClassFileIndex();
        // Texts: A 0, B 1, C 2, X 3. A -> B -> C -> A; X -> A, Y -> Y.
        Files.load(x, "t:A k:1 t:B k:3", "0 2 4 0 0 0 0");
        Files.load(x, "t:B k:1 t:C k:3", "0 2 0 0 1 4 0 0");
        Files.load(x, "t:C k:1 t:A k:3", "0 2 4 0 0 0 0");
        Files.load(x, "t:X k:1 t:A k:3", "0 2 0 0 2 4 4 0 0");
        Files.load(x, "t:Y k:1", "0 2 2 0 1 2 0 0");
        for (int c = 0; c < 4; c++) {
            for (int t = 0; t < 3; t++) {
                Due.due("subtype(" + c + ", " + t + ")", x.subtype(c, t), true);
            }
            Due.due("subtype(" + c + ", 3)", x.subtype(c, 3), false);
        }
        Due.due("Y under Y", x.subtype(4, 4), true);
        Due.due("Y under A", x.subtype(4, 0), false);
        for (int k = 0; k < 4; k++) {
            Due.due("A, k " + k, x.subtypeAt(0, k), k);
        }
        Due.due("A, k 4", x.subtypeAt(0, 4), -1);
        Due.due("X, k 0", x.subtypeAt(3, 0), -1);
        Due.due("Y, k 0", x.subtypeAt(4, 0), 4);
    }

    /** Sixteen classes, each under the next by turns as super and as interface. */
    private static void longChain() {
        ClassFileIndex x = new ClassFileIndex();
        for (int c = 0; c < 16; c++) {
            String constants = "t:" + (char) ('A' + c) + " k:1 t:" + (char) ('B' + c) + " k:3";
            Files.load(x, constants, c % 2 == 0 ? "0 2 4 0 0 0 0" : "0 2 0 0 1 4 0 0");
        }
        for (int c = 0; c < 16; c++) {
            for (int t = 0; t <= 16; t++) {
                Due.due("chain: subtype(" + c + ", " + t + ")", x.subtype(c, t), t > c);
            }
        }
        Due.due("chain: last text, k 15", x.subtypeAt(16, 15), 15);
        Due.due("chain: last text, k 16", x.subtypeAt(16, 16), -1);
    }

    private static void listing() {
        ClassFileIndex x = new ClassFileIndex();
        // Texts: A 0, Z 1, B 2, C 3, D 4.
        Files.load(x, "t:A k:1 t:Z k:3", "0 2 0 0 1 4 0 0");
        Files.load(x, "t:B k:1", "0 2 0 0 0 0 0");
        Files.load(x, "t:C k:1 t:A k:3", "0 2 4 0 0 0 0");
        Files.load(x, "t:D k:1 t:Z k:3 t:B k:5", "0 2 6 0 4 4 6 4 4 0 0");
        int[] due = {0, 2, 3, -1};
        for (int k = 0; k < due.length; k++) {
            Due.due("Z, k " + k, x.subtypeAt(1, k), due[k]);
        }
        Due.due("Z, k -1", x.subtypeAt(1, -1), -1);
        Due.due("Z, k MIN", x.subtypeAt(1, Integer.MIN_VALUE), -1);
        Due.due("Z, k MAX", x.subtypeAt(1, Integer.MAX_VALUE), -1);
        Due.due("B, k 0", x.subtypeAt(2, 0), 3);
        Due.due("B, k 1", x.subtypeAt(2, 1), -1);
        Due.due("C, k 0", x.subtypeAt(3, 0), -1);
        Due.due("no text 5", x.subtypeAt(5, 0), -1);
        Due.due("no text MAX", x.subtypeAt(Integer.MAX_VALUE, 0), -1);
    }
}
