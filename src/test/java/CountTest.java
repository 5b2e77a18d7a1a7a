/** Promise 16: count. */
public final class CountTest {
    public static void main(String[] args) {
        declared();
        contained();
        containerEdges();
        containerIsItself();
        inherited();
        Due.finish();
    }

    private static void declared() {
        ClassFileIndex x = new ClassFileIndex();
        // Texts: A 0, P 1, Q 2.
        Files.load(x, "t:A k:1 t:P k:3 t:Q k:5", "0 2 0 0 0 4 4 0 6 0 4 0 4 0 0");
        Due.due("count(0, P), P missing", x.count(0, 1), 3);
        Due.due("count(0, Q)", x.count(0, 2), 1);
        Due.due("count(0, A)", x.count(0, 0), 0);
        int[] absent = {-1, 3, 192, Integer.MIN_VALUE, Integer.MAX_VALUE};
        for (int a : absent) {
            Due.due("count(" + a + ", P)", x.count(a, 1), 0);
            Due.due("count(0, " + a + ")", x.count(0, a), 0);
        }
    }

    /** A has P, K {P, Q, P}, K {P}: four of P when K is P's container. */
    private static void contained() {
        ClassFileIndex x = new ClassFileIndex();
        // Texts: A 0, P 1, K 2, Q 3, e 4.
        Files.load(x, "t:A k:1 t:P k:3 t:K k:5 t:Q k:7 t:e",
                "0 2 0 0 0 3 4 0 6 1 9 [ 3 @ 4 0 @ 8 0 @ 4 0 6 1 9 [ 1 @ 4 0 0");
        Due.due("P missing: its container isn't known", x.count(0, 1), 1);
        Due.due("K", x.count(0, 2), 2);
        Files.load(x, "t:P k:1 t:K k:3", "0 2 0 4 0 0 0");
        Due.due("P with container K", x.count(0, 1), 4);
        Due.due("Q missing", x.count(0, 3), 0);
        Files.load(x, "t:Q k:1", "0 2 0 0 0 0 0");
        Due.due("Q without container", x.count(0, 3), 0);
        Due.due("K still", x.count(0, 2), 2);
        ClassFileIndex y = new ClassFileIndex();
        // Texts: A 0, P 1, L 2; P's container is L, but A has none.
        Files.load(y, "t:A k:1 t:P k:3 t:L k:5 t:K k:7 t:e", "0 2 0 0 0 2 8 1 9 [ 1 @ 4 0 4 0 0");
        Files.load(y, "t:P k:1 t:L k:3", "0 2 0 4 0 0 0");
        Due.due("another container", y.count(0, 1), 1);
    }

    private static int countOfP(String annotations) {
        ClassFileIndex x = new ClassFileIndex();
        // Texts: P 0, K 1, A 2, e 3, f 4.
        Files.load(x, "t:P k:1 t:K k:3", "0 2 0 4 0 0 0");
        int c = Files.read(x, "t:A k:1 t:P k:3 t:K k:5 t:e t:f i:9", "0 2 0 0 0 " + annotations + " 0");
        Due.due("read of " + annotations, c, 1);
        return x.count(1, 0);
    }

    private static void containerEdges() {
        Due.due("K without elements", countOfP("1 6 0"), 0);
        Due.due("K {e = row of none}", countOfP("1 6 1 7 [ 0"), 0);
        Due.due("K {e = P}", countOfP("1 6 1 7 @ 4 0"), 0);
        Due.due("K {e = the class P}", countOfP("1 6 1 7 c 4"), 0);
        Due.due("K {f = row}: the name is free", countOfP("1 6 1 8 [ 1 @ 4 0"), 1);
        Due.due("K {e = 9, f = row}: not first", countOfP("1 6 2 7 I 9 8 [ 1 @ 4 0"), 0);
        Due.due("K {e = row, f = row}", countOfP("1 6 2 7 [ 1 @ 4 0 8 [ 1 @ 4 0"), 1);
        Due.due("a row in the row", countOfP("1 6 1 7 [ 2 [ 1 @ 4 0 @ 4 0"), 1);
        Due.due("P in P", countOfP("1 6 1 7 [ 1 @ 4 1 7 @ 4 0"), 1);
        Due.due("other values in the row", countOfP("1 6 1 7 [ 4 c 4 s 3 @ 6 0 @ 4 0"), 1);
        Due.due("row of four", countOfP("1 6 1 7 [ 4 @ 4 0 @ 4 0 @ 4 0 @ 4 0"), 4);
        Due.due("K in a row of K", countOfP("1 6 1 7 [ 1 @ 6 1 7 [ 1 @ 4 0"), 0);
        Due.due("P that holds a row of P", countOfP("1 4 1 7 [ 1 @ 4 0"), 1);
    }

    /** T's container may be T: each one counts, and the ones in its row too. */
    private static void containerIsItself() {
        ClassFileIndex x = new ClassFileIndex();
        // Texts: P 0, e 1.
        Files.load(x, "t:P k:1 t:e", "0 2 0 2 0 2 2 1 3 [ 2 @ 2 0 @ 2 1 3 [ 1 @ 2 0 2 0 0");
        Due.due("P at P", x.count(0, 0), 4);
    }

    /** A under B under C: what is AT the first class that has some. */
    private static void inherited() {
        for (int flags = 0; flags <= 3; flags++) {
            ClassFileIndex x = new ClassFileIndex();
            // Texts: P 0, K 1, C 2, B 3, e 4, A 5, D 6.
            Files.load(x, "t:P k:1 t:K k:3", flags + " 2 0 4 0 0 0");
            Files.load(x, "t:C k:1 t:P k:3", "0 2 0 0 0 3 4 0 4 0 4 0 0");
            Files.load(x, "t:B k:1 t:P k:3 t:K k:5 t:C k:7 t:e", "0 2 8 0 0 1 6 1 9 [ 2 @ 4 0 @ 4 0 0");
            Files.load(x, "t:A k:1 t:B k:3 t:K k:5", "0 2 4 0 0 1 6 0 0");
            Files.load(x, "t:D k:1 t:A k:3 t:P k:5", "0 2 4 0 0 1 6 0 0");
            boolean told = flags >= 2;
            Due.due("C, flags " + flags, x.count(1, 0), 3);
            Due.due("B, flags " + flags, x.count(2, 0), 2);
            Due.due("A, flags " + flags, x.count(3, 0), told ? 2 : 0);
            Due.due("D, flags " + flags, x.count(4, 0), 1);
            Due.due("holder goes past the row, flags " + flags, x.holder(3, 0), told ? 1 : -1);
            Due.due("K at A", x.count(3, 1), 1);
            Due.due("K at D: K is missing", x.count(4, 1), 0);
        }
    }
}
