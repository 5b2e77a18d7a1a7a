/** Promise 17: meta. */
public final class MetaTest {
    public static void main(String[] args) {
        steps();
        circles();
        noOtherWay();
        longChain();
        Due.finish();
    }

    /** A has P, P has Q, Q has R; P comes last, R never. */
    private static void steps() {
        ClassFileIndex x = new ClassFileIndex();
        // Texts: A 0, P 1, Q 2, R 3.
        Files.load(x, "t:A k:1 t:P k:3", "0 2 0 0 0 1 4 0 0");
        Files.load(x, "t:Q k:1 t:R k:3", "0 2 0 0 0 1 4 0 0");
        Due.due("A, P", x.meta(0, 1), true);
        Due.due("A, Q: P is missing", x.meta(0, 2), false);
        Due.due("A, A", x.meta(0, 0), false);
        Files.load(x, "t:P k:1 t:Q k:3", "0 2 0 0 0 1 4 0 0");
        boolean[] due = {false, true, true, true, false};
        for (int t = 0; t < due.length; t++) {
            Due.due("A, " + t, x.meta(0, t), due[t]);
        }
        Due.due("Q, P", x.meta(1, 1), false);
        Due.due("P, R", x.meta(2, 3), true);
        int[] absent = {-1, 4, 192, Integer.MIN_VALUE, Integer.MAX_VALUE};
        for (int a : absent) {
            Due.due("meta(" + a + ", P)", x.meta(a, 1), false);
            Due.due("meta(0, " + a + ")", x.meta(0, a), false);
        }
        Due.due("meta(3, P)", x.meta(3, 1), false);
    }

    private static void circles() {
        ClassFileIndex x = new ClassFileIndex();
        // Texts: P 0, Q 1, A 2, O 3. P and Q on each other, A has P, O has O.
        Files.load(x, "t:P k:1 t:Q k:3", "0 2 0 0 0 1 4 0 0");
        Files.load(x, "t:Q k:1 t:P k:3", "0 2 0 0 0 2 4 0 4 0 0");
        Files.load(x, "t:A k:1 t:P k:3", "0 2 0 0 0 1 4 0 0");
        Files.load(x, "t:O k:1", "0 2 0 0 0 1 2 0 0");
        for (int c = 0; c < 3; c++) {
            Due.due(c + ", P", x.meta(c, 0), true);
            Due.due(c + ", Q", x.meta(c, 1), true);
            Due.due(c + ", A", x.meta(c, 2), false);
            Due.due(c + ", O", x.meta(c, 3), false);
        }
        Due.due("O, O", x.meta(3, 3), true);
        Due.due("O, P", x.meta(3, 0), false);
    }

    /** Neither supertypes, nor containers, nor annotations inside values are steps. */
    private static void noOtherWay() {
        ClassFileIndex x = new ClassFileIndex();
        // Texts: A 0, S 1, P 2, e 3, Q 4, R 5.
        Files.load(x, "t:A k:1 t:S k:3 t:P k:5 t:e t:Q k:8",
                "0 2 4 4 1 4 1 6 2 7 [ 1 @ 9 0 7 @ 4 0 1 7 @ 9 0");
        Files.load(x, "t:S k:1 t:R k:3", "2 2 0 0 0 1 4 0 0");
        boolean[] due = {false, false, true, false, false, false};
        for (int t = 0; t < due.length; t++) {
            Due.due("A, " + t, x.meta(0, t), due[t]);
        }
        Due.due("S, R", x.meta(1, 5), true);
        Due.due("an annotation is no supertype", x.subtype(0, 2), false);
    }

    private static void longChain() {
        ClassFileIndex x = new ClassFileIndex();
        for (int c = 0; c < 16; c++) {
            String constants = "t:" + (char) ('A' + c) + " k:1 t:" + (char) ('B' + c) + " k:3";
            Files.load(x, constants, "0 2 0 0 0 1 4 0 0");
        }
        for (int t = 0; t <= 16; t++) {
            Due.due("chain: meta(0, " + t + ")", x.meta(0, t), t > 0);
            Due.due("chain: meta(7, " + t + ")", x.meta(7, t), t > 7);
        }
    }
}
