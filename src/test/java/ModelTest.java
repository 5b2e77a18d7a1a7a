import java.util.ArrayList;
import java.util.Arrays;
import java.util.List;
import java.util.Random;

/** All promises: runs of at most 512 calls, made from fixed seeds, on the program and on the Model. */
public final class ModelTest {
    private static final int RUNS = 1500;
    private static final String[] NAMES = {"A", "B", "C", "D", "E", "F", "G", "H", "P", "Q", "K", "L",
        "Ab", "Abcdefghij", "M", "N", "O", "R", "S", "T"};

    private final Random random;
    private final ClassFileIndex x = new ClassFileIndex();
    private final Model y = new Model();
    private final int names;
    private final String run;
    private int calls = 0;
    private static int rightFiles = 0;
    private static int wrongFiles = 0;
    private static final int[] reasons = new int[10];

    private ModelTest(int seed) {
        random = new Random(seed);
        names = 2 + random.nextInt(NAMES.length - 1);
        run = "run " + seed + " call ";
    }

    public static void main(String[] args) {
        for (int seed = 0; seed < RUNS; seed++) {
            new ModelTest(seed).go();
        }
        System.out.println(rightFiles + " files were right, " + wrongFiles + " wrong; by reason "
                + Arrays.toString(reasons));
        for (int reason = 1; reason <= 9; reason++) {
            Due.due("reason " + reason + " was seen", reasons[reason] > 0, true);
        }
        Due.finish();
    }

    private void go() {
        while (calls < 480) {
            if (random.nextInt(12) == 0) {
                feed();
            } else {
                ask();
            }
        }
    }

    private void due(String call, long got, long want) {
        calls++;
        Due.due(run + calls + ": " + call, got, want);
    }

    private static long bit(boolean answer) {
        return answer ? 1 : 0;
    }

    private void feed() {
        List<Integer> bytes = makeFile();
        for (int i = random.nextInt(3) == 0 ? 1 + random.nextInt(2) : 0; i > 0; i--) {
            spoil(bytes);
        }
        for (int from = 0; from < bytes.size();) {
            int n = Math.min(bytes.size() - from, random.nextInt(10) == 0 ? 1 + random.nextInt(8) : 8);
            long number = random.nextLong();
            for (int i = 0; i < n; i++) {
                number = number << 8 | bytes.get(from + i);
            }
            due("put", bit(x.put(number, n)), bit(y.put(number, n)));
            from += n;
        }
        due("length", x.length(), y.length());
        int answer = y.read();
        due("read", x.read(), answer);
        if (answer < -1) {
            wrongFiles++;
            reasons[-answer / 1000]++;
        } else {
            rightFiles++;
        }
    }

    private void spoil(List<Integer> bytes) {
        int at = random.nextInt(bytes.size());
        switch (random.nextInt(5)) {
            case 0:
                bytes.set(at, random.nextInt(256));
                break;
            case 1:
                bytes.set(at, random.nextInt(16));
                break;
            case 2:
                bytes.add(at, random.nextInt(8));
                break;
            case 3:
                bytes.subList(Math.max(at, 1), bytes.size()).clear();
                break;
            default:
                bytes.add(random.nextInt(256));
        }
    }

    private List<Integer> texts = new ArrayList<>();
    private List<Integer> classes = new ArrayList<>();
    private List<Integer> ints = new ArrayList<>();

    private List<Integer> makeFile() {
        List<Integer> bytes = new ArrayList<>(List.of(202, 254));
        texts = new ArrayList<>();
        classes = new ArrayList<>();
        ints = new ArrayList<>();
        List<Integer> kinds = new ArrayList<>(List.of(1, 7));
        for (int more = random.nextInt(11); more > 0; more--) {
            kinds.add(new int[] {1, 1, 7, 7, 3}[random.nextInt(5)]);
        }
        java.util.Collections.shuffle(kinds, random);
        for (int k = 1; k <= kinds.size(); k++) {
            (kinds.get(k - 1) == 1 ? texts : kinds.get(k - 1) == 7 ? classes : ints).add(k);
        }
        bytes.add(kinds.size());
        for (int kind : kinds) {
            bytes.add(kind);
            if (kind == 1) {
                String name = random.nextInt(40) == 0 ? "" : NAMES[random.nextInt(names)];
                bytes.add(name.length());
                name.chars().forEach(bytes::add);
            } else if (kind == 3) {
                for (int i = 0; i < 4; i++) {
                    bytes.add(random.nextInt(2) * random.nextInt(256));
                }
            } else {
                bytes.add(one(texts));
            }
        }
        bytes.addAll(List.of(random.nextInt(4), one(classes), classOrNone(), classOrNone()));
        addNumber(bytes, 3);
        for (int left = bytes.get(bytes.size() - 1); left > 0; left--) {
            bytes.add(one(classes));
        }
        addNumber(bytes, 5);
        for (int left = bytes.get(bytes.size() - 1); left > 0; left--) {
            addAnnotation(bytes, 1);
        }
        addNumber(bytes, 4);
        for (int left = bytes.get(bytes.size() - 1); left > 0; left--) {
            bytes.add(one(texts));
            addValue(bytes, 1);
        }
        return bytes;
    }

    private int one(List<Integer> among) {
        return among.get(random.nextInt(among.size()));
    }

    private int classOrNone() {
        return random.nextInt(3) == 0 ? 0 : one(classes);
    }

    private void addNumber(List<Integer> bytes, int below) {
        bytes.add(bytes.size() > 100 ? 0 : random.nextInt(below));
    }

    private void addAnnotation(List<Integer> bytes, int depth) {
        bytes.add(one(classes));
        addNumber(bytes, 3);
        for (int left = bytes.get(bytes.size() - 1); left > 0; left--) {
            bytes.add(one(texts));
            addValue(bytes, depth);
        }
    }

    private void addValue(List<Integer> bytes, int depth) {
        int kind = random.nextInt(depth > 4 ? 3 : 7);
        if (kind == 0 && !ints.isEmpty()) {
            bytes.addAll(List.of(73, one(ints)));
        } else if (kind <= 1) {
            bytes.addAll(List.of(115, one(texts)));
        } else if (kind == 2) {
            bytes.addAll(List.of(99, one(classes)));
        } else if (kind <= 4) {
            bytes.add(91);
            addNumber(bytes, depth == 4 && random.nextInt(10) != 0 ? 1 : 4);
            for (int left = bytes.get(bytes.size() - 1); left > 0; left--) {
                addValue(bytes, depth + 1);
            }
        } else if (depth == 4 && random.nextInt(10) != 0) {
            bytes.addAll(List.of(64, one(classes), 0));
        } else {
            bytes.add(64);
            addAnnotation(bytes, depth + 1);
        }
    }

    private int someClass() {
        return random.nextInt(y.classes() + 2) - (random.nextInt(10) == 0 ? 1 : 0);
    }

    private int someText() {
        return random.nextInt(y.texts() + 2) - (random.nextInt(10) == 0 ? 1 : 0);
    }

    private int somePath() {
        int path = 0;
        for (int steps = random.nextInt(5); steps > 0; steps--) {
            path = 8 * path + (random.nextInt(12) == 0 ? random.nextInt(8) : 1 + random.nextInt(2));
        }
        return random.nextInt(30) == 0 ? random.nextInt() : path;
    }

    private void ask() {
        int c = someClass();
        int t = someText();
        int k = random.nextInt(8) - 1;
        switch (random.nextInt(16)) {
            case 0:
                due("classes", x.classes(), y.classes());
                due("texts", x.texts(), y.texts());
                break;
            case 1:
                due("letter " + t + " " + k, x.letter(t, k), y.letter(t, k));
                break;
            case 2:
                due("find " + t, x.find(t), y.find(t));
                break;
            case 3:
                due("name " + c, x.name(c), y.name(c));
                due("flags " + c, x.flags(c), y.flags(c));
                break;
            case 4:
                due("superName " + c, x.superName(c), y.superName(c));
                break;
            case 5:
            case 6:
                due("subtype " + c + " " + t, bit(x.subtype(c, t)), bit(y.subtype(c, t)));
                break;
            case 7:
                due("subtypeAt " + t + " " + k, x.subtypeAt(t, k), y.subtypeAt(t, k));
                break;
            case 8:
                due("holder " + c + " " + t, x.holder(c, t), y.holder(c, t));
                break;
            case 9:
            case 10:
                due("count " + c + " " + t, x.count(c, t), y.count(c, t));
                break;
            case 11:
                due("meta " + c + " " + t, bit(x.meta(c, t)), bit(y.meta(c, t)));
                break;
            default:
                askValue();
        }
    }

    /** Looks for a question that has an answer, since most of them have none. */
    private void askValue() {
        for (int tries = 0; tries < 20; tries++) {
            int c = someClass();
            int t = someText();
            int element = someText();
            int path = somePath();
            if (tries == 19 || y.value(c, t, element, path) != -1) {
                String call = "value " + c + " " + t + " " + element + " " + path;
                due(call, x.value(c, t, element, path), y.value(c, t, element, path));
                return;
            }
        }
    }
}
