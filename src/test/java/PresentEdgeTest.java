/** The edges of promises 15 and 16: what is inherited, where the chain ends, and what counts in rows. */
public final class PresentEdgeTest {
    public static void main(String[] args) {
        flagsThatInherit();
        typeThatNamesNoClass();
        chainEndsAtAMissingClass();
        onlyTheFilesOwnAnnotationsArePresent();
        declaredUpToFour();
        rowsUpToFour();
        mostOfAll();
        firstElementAlone();
        deeperInside();
        otherValuesOfTheRow();
        containers();
        defaultsDoNotCount();
        theFirstClassThatHasSome();
        Due.finish();
    }

    /** "A text T is INHERITED when it names a class whose flags have 2." Texts: P 0, B 1, A 2. */
    private static void flagsThatInherit() {
        for (int flags = 0; flags <= 3; flags++) {
            ClassFileIndex x = new ClassFileIndex();
            Files.load(x, "t:P k:1", flags + " 2 0 0 0 0 0");
            Files.load(x, "t:B k:1 t:P k:3", "3 2 0 0 0 2 4 0 4 0 0");
            Files.load(x, "t:A k:1 t:B k:3", "3 2 4 0 0 0 0");
            boolean inherited = flags == 2 || flags == 3;
            Due.due("holder at A, flags " + flags, x.holder(2, 0), inherited ? 1 : -1);
            Due.due("count at A, flags " + flags, x.count(2, 0), inherited ? 2 : 0);
            Due.due("holder at B, flags " + flags, x.holder(1, 0), 1);
            Due.due("count at B, flags " + flags, x.count(1, 0), 2);
            Due.due("meta doesn't inherit, flags " + flags, x.meta(2, 0), false);
        }
    }

    /** It is not INHERITED as long as it names none. Texts: B 0, P 1, A 2. */
    private static void typeThatNamesNoClass() {
        ClassFileIndex x = new ClassFileIndex();
        Files.load(x, "t:B k:1 t:P k:3", "2 2 0 0 0 1 4 0 0");
        Files.load(x, "t:A k:1 t:B k:3", "2 2 4 0 0 0 0");
        Due.due("holder at B, P missing", x.holder(0, 1), 0);
        Due.due("count at B, P missing", x.count(0, 1), 1);
        Due.due("holder at A, P missing", x.holder(1, 1), -1);
        Due.due("count at A, P missing", x.count(1, 1), 0);
        Files.load(x, "t:P k:1", "2 2 0 0 0 0 0");
        Due.due("holder at A, P there", x.holder(1, 1), 0);
        Due.due("count at A, P there", x.count(1, 1), 1);
    }

    /** "till there is none": C is missing at first. Texts: P 0, A 1, B 2, C 3. */
    private static void chainEndsAtAMissingClass() {
        ClassFileIndex x = new ClassFileIndex();
        Files.load(x, "t:P k:1", "2 2 0 0 0 0 0");
        Files.load(x, "t:A k:1 t:B k:3", "0 2 4 0 0 0 0");
        Due.due("holder at A, B missing", x.holder(1, 0), -1);
        Files.load(x, "t:B k:1 t:C k:3", "0 2 4 0 0 0 0");
        Due.due("holder at A, C missing", x.holder(1, 0), -1);
        Due.due("count at A, C missing", x.count(1, 0), 0);
        Files.load(x, "t:C k:1 t:P k:3", "0 2 0 0 0 1 4 0 0");
        Due.due("holder at A", x.holder(1, 0), 3);
        Due.due("count at A", x.count(1, 0), 1);
        Due.due("holder at B", x.holder(2, 0), 3);
    }

    /** "(Annotations in rows don't count here.)" Nor do those in values and defaults. Texts: A 0, P 1, Q 2, e 3. */
    private static void onlyTheFilesOwnAnnotationsArePresent() {
        ClassFileIndex x = new ClassFileIndex();
        Files.load(x, "t:A k:1 t:P k:3 t:Q k:5 t:e", "0 2 0 0 0 1 4 2 7 [ 1 @ 6 0 7 @ 6 0 1 7 @ 6 0");
        Due.due("holder of P", x.holder(0, 1), 0);
        Due.due("holder of Q", x.holder(0, 2), -1);
        Due.due("count of Q", x.count(0, 2), 0);
        Due.due("meta of Q", x.meta(0, 2), false);
    }

    /** Texts: A 0, P 1, Q 2: so many of P among four, from the last on. */
    private static void declaredUpToFour() {
        for (int n = 0; n <= 4; n++) {
            ClassFileIndex x = new ClassFileIndex();
            Files.load(x, "t:A k:1 t:P k:3 t:Q k:5", "0 2 0 0 0 4 " + "6 0 ".repeat(4 - n) + "4 0 ".repeat(n) + "0");
            Due.due(n + " of four: count", x.count(0, 1), n);
            Due.due(n + " of four: count of the others", x.count(0, 2), 4 - n);
            Due.due(n + " of four: holder", x.holder(0, 1), n > 0 ? 0 : -1);
            Due.due(n + " of four: meta", x.meta(0, 1), n > 0);
        }
    }

    /**
     * How many of P are counted at A, whose annotations are told, when P's container is K.
     * Constants: P 4, K 6, the texts e 7 and f 8, the int 9.
     */
    private static int countOfP(String annotations) {
        ClassFileIndex x = new ClassFileIndex();
        Files.load(x, "t:P k:1 t:K k:3", "0 2 0 4 0 0 0");
        Files.load(x, "t:A k:1 t:P k:3 t:K k:5 t:e t:f i:9", "0 2 0 0 0 " + annotations + " 0");
        return x.count(1, 0);
    }

    private static String row(int n) {
        return "[ " + n + " " + "@ 4 0 ".repeat(n);
    }

    private static void rowsUpToFour() {
        for (int n = 0; n <= 4; n++) {
            Due.due("a row of " + n, countOfP("1 6 1 7 " + row(n)), n);
            Due.due("a row of " + n + " and one declared", countOfP("2 6 1 7 " + row(n) + "4 0"), n + 1);
            Due.due("one declared and a row of " + n, countOfP("2 4 0 6 1 7 " + row(n)), n + 1);
            Due.due("two rows of " + n, countOfP("2 6 1 7 " + row(n) + "6 1 8 " + row(n)), 2 * n);
        }
    }

    /** Four annotations of the container with rows of four; and four of a type that contains itself. */
    private static void mostOfAll() {
        Due.due("sixteen in rows", countOfP("4 " + ("6 1 7 " + row(4)).repeat(4)), 16);
        ClassFileIndex x = new ClassFileIndex();
        String one = "2 1 1 [ 4 " + "@ 2 0 ".repeat(4);
        Files.load(x, "t:P k:1", "0 2 0 2 0 4 " + one.repeat(4) + "0");
        Due.due("four, and sixteen in rows", x.count(0, 0), 20);
    }

    /** "whose first element's value is a row" */
    private static void firstElementAlone() {
        String[] others = {"I 9", "s 7", "c 4", "@ 4 0", "@ 6 1 7 @ 4 0", "@ 6 1 7 [ 1 @ 4 0", "[ 0"};
        Due.due("no element", countOfP("1 6 0"), 0);
        for (String other : others) {
            Due.due("first " + other, countOfP("1 6 1 7 " + other), 0);
            Due.due("first " + other + ", then a row", countOfP("1 6 2 7 " + other + " 8 " + row(3)), 0);
            Due.due("first a row, then " + other, countOfP("1 6 2 7 " + row(3) + " 8 " + other), 3);
        }
        Due.due("two rows", countOfP("1 6 2 7 " + row(1) + "8 " + row(4)), 1);
        Due.due("two rows of one name", countOfP("1 6 2 7 " + row(2) + "7 " + row(4)), 2);
        Due.due("four rows", countOfP("1 6 4 " + ("7 " + row(2)).repeat(4)), 2);
    }

    /** "(Annotations deeper inside don't count.)" */
    private static void deeperInside() {
        Due.due("a row in the row", countOfP("1 6 1 7 [ 1 " + row(4)), 0);
        Due.due("a row in the row, and one", countOfP("1 6 1 7 [ 2 " + row(4) + "@ 4 0"), 1);
        Due.due("P in P", countOfP("1 6 1 7 [ 1 @ 4 1 7 @ 4 0"), 1);
        Due.due("P in Ps", countOfP("1 6 1 7 [ 2 @ 4 2 7 @ 4 0 8 @ 4 0 @ 4 1 7 " + row(2)), 2);
        Due.due("K with a row in the row", countOfP("1 6 1 7 [ 1 @ 6 1 7 " + row(4)), 0);
        Due.due("K as a value of another", countOfP("1 4 1 7 @ 6 1 7 " + row(2)), 1);
        Due.due("a row in P", countOfP("1 4 1 7 " + row(4)), 1);
    }

    private static void otherValuesOfTheRow() {
        Due.due("a class P", countOfP("1 6 1 7 [ 3 c 4 @ 4 0 c 4"), 1);
        Due.due("texts and ints", countOfP("1 6 1 7 [ 4 I 9 s 7 s 3 @ 4 0"), 1);
        Due.due("other types", countOfP("1 6 1 7 [ 4 @ 6 0 @ 2 0 @ 4 0 @ 6 0"), 1);
        Due.due("none of them", countOfP("1 6 1 7 [ 4 @ 6 0 @ 2 0 s 3 c 4"), 0);
        Due.due("a row under another type", countOfP("1 2 1 7 " + row(2)), 0);
    }

    /** "when T names a class whose CONTAINER is K (not none)" Texts: A 0, P 1, K 2, e 3. */
    private static void containers() {
        String[] ofP = {"0 2 0 0 0 0 0", "0 2 4 0 1 4 0 0", "0 2 0 2 0 0 0", "0 2 0 4 0 0 0"};
        for (int i = 0; i < ofP.length; i++) {
            ClassFileIndex x = new ClassFileIndex();
            Files.load(x, "t:A k:1 t:P k:3 t:K k:5 t:e", "0 2 0 0 0 2 6 1 7 [ 2 @ 4 0 @ 4 0 4 0 0");
            Due.due("P missing", x.count(0, 1), 1);
            Due.due("K missing", x.count(0, 2), 1);
            Files.load(x, "t:P k:1 t:K k:3", ofP[i]);
            Due.due("P is " + ofP[i], x.count(0, 1), i == 3 ? 3 : 1);
            Files.load(x, "t:K k:1 t:P k:3", "0 2 0 4 0 0 0");
            Due.due("K there, P is " + ofP[i], x.count(0, 1), i == 3 ? 3 : 1);
            Due.due("K, whose container is P", x.count(0, 2), 1);
        }
    }

    /** A default is no element of the annotation. Texts: K 0, e 1, P 2, A 3. */
    private static void defaultsDoNotCount() {
        ClassFileIndex x = new ClassFileIndex();
        Files.load(x, "t:K k:1 t:e t:P k:4", "0 2 0 0 0 0 1 3 [ 2 @ 5 0 @ 5 0");
        Files.load(x, "t:P k:1 t:K k:3", "0 2 0 4 0 0 0");
        Files.load(x, "t:A k:1 t:K k:3", "0 2 0 0 0 1 4 0 0");
        Due.due("the default row can be asked for", x.value(2, 0, 1, 0), (4L << 32) + 2);
        Due.due("but doesn't count", x.count(2, 2), 0);
    }

    /**
     * "when there are none and t is INHERITED, those at the first class in c's chain that has some": C has
     * P three times, B under C two in a row, A under B an empty row, D under A one. Classes: P 0, C 1, ..
     */
    private static void theFirstClassThatHasSome() {
        for (int flags = 0; flags <= 3; flags++) {
            ClassFileIndex x = new ClassFileIndex();
            Files.load(x, "t:P k:1 t:K k:3", flags + " 2 0 4 0 0 0");
            Files.load(x, "t:C k:1 t:P k:3", "0 2 0 0 0 3 4 0 4 0 4 0 0");
            Files.load(x, "t:B k:1 t:C k:3 t:P k:5 t:K k:7", "0 2 4 0 0 1 8 1 1 [ 2 @ 6 0 @ 6 0 0");
            Files.load(x, "t:A k:1 t:B k:3 t:K k:5", "0 2 4 0 0 1 6 1 1 [ 0 0");
            Files.load(x, "t:D k:1 t:A k:3 t:P k:5", "0 2 4 0 0 1 6 0 0");
            boolean inherited = flags >= 2;
            int[] counts = {0, 3, 2, inherited ? 2 : 0, 1};
            int[] holders = {-1, 1, inherited ? 1 : -1, inherited ? 1 : -1, 4};
            for (int c = 0; c < 5; c++) {
                Due.due("flags " + flags + ": count(" + c + ", P)", x.count(c, 0), counts[c]);
                Due.due("flags " + flags + ": holder(" + c + ", P)", x.holder(c, 0), holders[c]);
            }
            Due.due("K isn't inherited, its class is missing", x.count(4, 1), 0);
        }
    }
}
