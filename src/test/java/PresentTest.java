/** Promise 15: holder. */
public final class PresentTest {
    public static void main(String[] args) {
        declared();
        inherited();
        interfacesDoNotInherit();
        circles();
        rowsDoNotCount();
        Due.finish();
    }

    private static void declared() {
        ClassFileIndex x = new ClassFileIndex();
        // Texts: A 0, P 1, Q 2, e 3.
        Files.load(x, "t:A k:1 t:P k:3 t:Q k:5 t:e", "0 2 6 6 1 6 2 4 0 4 0 0");
        Due.due("holder(0, P), P missing", x.holder(0, 1), 0);
        Due.due("holder(0, Q)", x.holder(0, 2), -1);
        Due.due("holder(0, A)", x.holder(0, 0), -1);
        Due.due("holder(0, e)", x.holder(0, 3), -1);
        int[] absent = {-1, 4, 192, Integer.MIN_VALUE, Integer.MAX_VALUE};
        for (int a : absent) {
            Due.due("holder(" + a + ", P)", x.holder(a, 1), -1);
            Due.due("holder(0, " + a + ")", x.holder(0, a), -1);
        }
        Due.due("holder(1, P)", x.holder(1, 1), -1);
    }

    /** A under B under C; C has P, B has Q; P is inherited once its class says so. */
    private static void inherited() {
        for (int flags = 0; flags <= 3; flags++) {
            ClassFileIndex x = new ClassFileIndex();
            // Texts: A 0, B 1, C 2, P 3, Q 4.
            Files.load(x, "t:A k:1 t:B k:3", "0 2 4 0 0 0 0");
            Files.load(x, "t:C k:1 t:P k:3", "0 2 0 0 0 1 4 0 0");
            Due.due("A, P: P and B are missing", x.holder(0, 3), -1);
            Files.load(x, "t:P k:1", flags + " 2 0 0 0 0 0");
            Due.due("A, P: B is missing", x.holder(0, 3), -1);
            Files.load(x, "t:B k:1 t:C k:3 t:Q k:5", "3 2 4 0 0 1 6 0 0");
            boolean told = flags >= 2;
            Due.due("A, P with flags " + flags, x.holder(0, 3), told ? 1 : -1);
            Due.due("B, P with flags " + flags, x.holder(3, 3), told ? 1 : -1);
            Due.due("C, P", x.holder(1, 3), 1);
            Due.due("B, Q", x.holder(3, 4), 3);
            Due.due("A, Q: Q is missing", x.holder(0, 4), -1);
        }
        nearest();
    }

    private static void nearest() {
        ClassFileIndex x = new ClassFileIndex();
        // Texts: P 0, C 1, B 2, A 3.
        Files.load(x, "t:P k:1", "2 2 0 0 0 0 0");
        Files.load(x, "t:C k:1 t:P k:3", "0 2 0 0 0 1 4 0 0");
        Files.load(x, "t:B k:1 t:P k:3 t:C k:5", "0 2 6 0 0 1 4 0 0");
        Files.load(x, "t:A k:1 t:B k:3", "0 2 4 0 0 0 0");
        Due.due("the nearest one in the chain", x.holder(3, 0), 2);
        Due.due("the class itself first", x.holder(2, 0), 2);
        Due.due("C", x.holder(1, 0), 1);
        Due.due("P", x.holder(0, 0), -1);
    }

    private static void interfacesDoNotInherit() {
        ClassFileIndex x = new ClassFileIndex();
        Files.load(x, "t:P k:1", "2 2 0 0 0 0 0");
        Files.load(x, "t:I k:1 t:P k:3", "0 2 0 0 0 1 4 0 0");
        Files.load(x, "t:A k:1 t:I k:3", "0 2 0 4 1 4 0 0");
        Due.due("I", x.holder(1, 0), 1);
        Due.due("A, whose interface and container is I", x.holder(2, 0), -1);
        Due.due("A, count", x.count(2, 0), 0);
    }

    private static void circles() {
        ClassFileIndex x = new ClassFileIndex();
        // Texts: P 0, A 1, B 2, Q 3, C 4. A -> B -> A; C -> A; B has P; Q on nobody.
        Files.load(x, "t:P k:1", "2 2 2 0 0 0 0");
        Files.load(x, "t:A k:1 t:B k:3", "0 2 4 0 0 0 0");
        Files.load(x, "t:B k:1 t:A k:3 t:P k:5", "0 2 4 0 0 1 6 0 0");
        Files.load(x, "t:Q k:1", "2 2 0 0 0 0 0");
        Files.load(x, "t:C k:1 t:A k:3", "0 2 4 0 0 0 0");
        Due.due("A, P", x.holder(1, 0), 2);
        Due.due("B, P", x.holder(2, 0), 2);
        Due.due("C, P", x.holder(4, 0), 2);
        Due.due("P, P: its own super", x.holder(0, 0), -1);
        for (int c = 0; c < 5; c++) {
            Due.due("holder(" + c + ", Q)", x.holder(c, 3), -1);
            Due.due("count(" + c + ", Q)", x.count(c, 3), 0);
        }
    }

    private static void rowsDoNotCount() {
        ClassFileIndex x = new ClassFileIndex();
        // Texts: P 0, K 1, A 2, e 3.
        Files.load(x, "t:P k:1 t:K k:3", "2 2 0 4 0 0 0");
        Files.load(x, "t:A k:1 t:P k:3 t:K k:5 t:e", "0 2 0 0 0 1 6 1 7 [ 1 @ 4 0 0");
        Due.due("P in a row", x.holder(1, 0), -1);
        Due.due("P in a row, counted", x.count(1, 0), 1);
        Due.due("K", x.holder(1, 1), 1);
    }
}
