/** Promise 16: count; what is inherited, and the edges of rows, stand in PresentEdgeTest. */
public final class CountTest {
    public static void main(String[] args) {
        declared();
        contained();
        containerIsItself();
        Due.finish();
    }

    private static void declared() {
        ClassFileIndex x = new ClassFileIndex();
        // Texts: A 0, P 1, Q 2.
        Files.load(x, "t:A k:1 t:P k:3 t:Q k:5", "0 2 0 0 0 4 4 0 6 0 4 0 4 0 0");
        Due.due("count(0, P), P missing", x.count(0, 1), 3);
        Due.due("count(0, Q)", x.count(0, 2), 1);
        Due.due("count(0, A)", x.count(0, 0), 0);
        int[] absent = {-1, 3, 192, Integer.MIN_VALUE, Integer.MAX_VALUE};
        for (int a : absent) {
            Due.due("count(" + a + ", P)", x.count(a, 1), 0);
            Due.due("count(0, " + a + ")", x.count(0, a), 0);
        }
    }

    /** A has P, K {P, Q, P}, K {P}: four of P when K is P's container. */
    private static void contained() {
        ClassFileIndex x = new ClassFileIndex();
        // Texts: A 0, P 1, K 2, Q 3, e 4.
        Files.load(x, "t:A k:1 t:P k:3 t:K k:5 t:Q k:7 t:e",
                "0 2 0 0 0 3 4 0 6 1 9 [ 3 @ 4 0 @ 8 0 @ 4 0 6 1 9 [ 1 @ 4 0 0");
        Due.due("P missing: its container isn't known", x.count(0, 1), 1);
        Due.due("K", x.count(0, 2), 2);
        Files.load(x, "t:P k:1 t:K k:3", "0 2 0 4 0 0 0");
        Due.due("P with container K", x.count(0, 1), 4);
        Due.due("Q missing", x.count(0, 3), 0);
        Files.load(x, "t:Q k:1", "0 2 0 0 0 0 0");
        Due.due("Q without container", x.count(0, 3), 0);
        Due.due("K still", x.count(0, 2), 2);
        ClassFileIndex y = new ClassFileIndex();
        // Texts: A 0, P 1, L 2; P's container is L, but A has none.
        Files.load(y, "t:A k:1 t:P k:3 t:L k:5 t:K k:7 t:e", "0 2 0 0 0 2 8 1 9 [ 1 @ 4 0 4 0 0");
        Files.load(y, "t:P k:1 t:L k:3", "0 2 0 4 0 0 0");
        Due.due("another container", y.count(0, 1), 1);
    }

    /** T's container may be T: each one counts, and the ones in its row too. */
    private static void containerIsItself() {
        ClassFileIndex x = new ClassFileIndex();
        // Texts: P 0, e 1.
        Files.load(x, "t:P k:1 t:e", "0 2 0 2 0 2 2 1 3 [ 2 @ 2 0 @ 2 1 3 [ 1 @ 2 0 2 0 0");
        Due.due("P at P", x.count(0, 0), 4);
    }
}
