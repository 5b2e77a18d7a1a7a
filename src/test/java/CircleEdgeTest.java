/**
 * "circles do no harm": circles of supertypes, of superclasses and of meta types, of 1 to 16 classes, whole
 * or with a tail that leads into them; and the longest way without a circle.
 */
public final class CircleEdgeTest {
    /** How a class leads to the class that is constant 4. */
    private static final String BY_SUPER = "0 2 4 0 0 0 0";
    private static final String BY_INTERFACE = "0 2 0 0 1 4 0 0";
    private static final String BY_ANNOTATION = "0 2 0 0 0 1 4 0 0";

    public static void main(String[] args) {
        for (int size = 1; size <= 16; size++) {
            for (int back = 0; back <= size; back++) {
                supertypes(size, back, BY_SUPER, BY_SUPER);
                supertypes(size, back, BY_INTERFACE, BY_INTERFACE);
                supertypes(size, back, BY_SUPER, BY_INTERFACE);
                metaTypes(size, back);
            }
        }
        for (int size = 1; size <= 15; size++) {
            for (int back = 0; back <= size; back++) {
                chains(size, back);
            }
        }
        longestChains();
        twoWaysToOneClass();
        Due.finish();
    }

    private static String name(int i) {
        return "t:" + (char) ('A' + i);
    }

    /** Class i, of so many, leads to class i + 1, and the last one back to class back; or to no class. */
    private static String names(int i, int size, int back) {
        int to = i + 1 < size ? i + 1 : back == size ? 25 : back;
        return name(i) + " k:1 " + name(to) + " k:3";
    }

    /** All classes behind i are reached, and from the circle on all of the circle. */
    private static boolean reached(int i, int to, int size, int back) {
        return to > i || to >= back && back < size;
    }

    /** Classes lead on by both ways in turn; each class is named by the text of its own number. */
    private static ClassFileIndex circle(int size, int back, String way, String otherWay) {
        ClassFileIndex x = new ClassFileIndex();
        for (int i = 0; i < size; i++) {
            Files.load(x, names(i, size, back), i % 2 == 0 ? way : otherWay);
            Due.due("name(" + i + ")", x.name(i), i);
        }
        return x;
    }

    /** "a class in a circle is a supertype of itself", and one in the tail isn't. */
    private static void supertypes(int size, int back, String way, String otherWay) {
        ClassFileIndex x = circle(size, back, way, otherWay);
        String what = size + " classes back to " + back + ": ";
        for (int c = 0; c < size; c++) {
            for (int t = 0; t < size; t++) {
                String call = "subtype(" + c + ", " + t + ")";
                Due.due(what + call, x.subtype(c, t), reached(c, t, size, back));
            }
        }
        int under = back < size ? size : size - 1;
        Due.due(what + "the last one under the last", x.subtypeAt(size - 1, under - 1), under - 1);
        Due.due(what + "one more", x.subtypeAt(size - 1, under), -1);
    }

    private static void metaTypes(int size, int back) {
        ClassFileIndex x = circle(size, back, BY_ANNOTATION, BY_ANNOTATION);
        String what = size + " annotations back to " + back + ": ";
        for (int c = 0; c < size; c++) {
            for (int t = 0; t < size; t++) {
                Due.due(what + "meta(" + c + ", " + t + ")", x.meta(c, t), reached(c, t, size, back));
            }
        }
        Due.due(what + "no supertype", x.subtype(0, size - 1), false);
    }

    /** "till there is none or it was there before": an inherited Z, first nowhere, then at one class. */
    private static void chains(int size, int back) {
        ClassFileIndex x = new ClassFileIndex();
        loadChain(x, size, back, size);
        for (int c = 0; c <= size; c++) {
            Due.due("holder(" + c + ", Z) of none", x.holder(c, 0), -1);
            Due.due("count(" + c + ", Z) of none", x.count(c, 0), 0);
            Due.due("value(" + c + ", Z) of none", x.value(c, 0, 0, 0), -1);
        }
        int at = (size + back) % size;
        ClassFileIndex y = new ClassFileIndex();
        loadChain(y, size, back, at);
        String what = "chain of " + size + " back to " + back + ", Z at " + at + ": ";
        for (int i = 0; i < size; i++) {
            boolean found = i == at || reached(i, at, size, back);
            Due.due(what + "holder of " + i, y.holder(i + 1, 0), found ? at + 1 : -1);
            Due.due(what + "count of " + i, y.count(i + 1, 0), found ? 1 : 0);
            Due.due(what + "value of " + i, y.value(i + 1, 0, 0, 0), found ? 2L << 32 : -1);
        }
    }

    /** Class 0 is Z, whose flags have 2; the classes from 1 on are the chain, and one of them has Z. */
    private static void loadChain(ClassFileIndex x, int size, int back, int at) {
        Files.load(x, "t:Z k:1", "2 2 0 0 0 0 0");
        for (int i = 0; i < size; i++) {
            int to = i + 1 < size ? i + 1 : back;
            String has = i == at ? "1 6 1 5 s 5 0" : "0 0";
            boolean none = i + 1 == size && back == size;
            Files.load(x, name(i) + " k:1 " + name(to) + " k:3 t:Z k:5", "0 2 " + (none ? 0 : 4) + " 0 0 " + has);
        }
    }

    /** Sixteen classes in one chain, of which the last is the annotation's own, and has it alone. */
    private static void longestChains() {
        ClassFileIndex x = new ClassFileIndex();
        for (int i = 0; i < 15; i++) {
            Files.load(x, names(i, 16, 16), BY_SUPER);
        }
        Files.load(x, "t:P k:1", "2 2 0 0 0 1 2 1 1 c 2 0");
        for (int c = 0; c < 16; c++) {
            Due.due("holder(" + c + ", 15)", x.holder(c, 15), 15);
            Due.due("count(" + c + ", 15)", x.count(c, 15), 1);
            Due.due("value(" + c + ", 15)", x.value(c, 15, 15, 0), (3L << 32) + 15);
            Due.due("subtype(" + c + ", 15)", x.subtype(c, 15), c < 15);
        }
    }

    /** Each class has the next four as interfaces or annotations: many ways lead to the same ones. */
    private static void twoWaysToOneClass() {
        for (String rest : new String[] {"0 2 4 0 3 6 8 10 0 0", "0 2 0 0 0 4 4 0 6 0 8 0 10 0 0"}) {
            ClassFileIndex x = new ClassFileIndex();
            for (int i = 0; i < 16; i++) {
                StringBuilder constants = new StringBuilder(name(i) + " k:1");
                for (int k = 1; k <= 4; k++) {
                    constants.append(' ').append(name((i + k) % 17)).append(" k:").append(2 * k + 1);
                }
                Files.load(x, constants.toString(), rest);
            }
            for (int c = 0; c < 16; c++) {
                for (int t = 0; t < 17; t += 4) {
                    boolean got = rest.startsWith("0 2 4") ? x.subtype(c, t) : x.meta(c, t);
                    Due.due(rest + ": " + c + ", " + t, got, true);
                }
            }
        }
    }
}
