import java.util.ArrayList;
import java.util.HashSet;
import java.util.LinkedHashSet;
import java.util.List;
import java.util.Set;

/**
 * The document once more, word by word over strings and sets and with exceptions, to be compared
 * with the program. It shares no code with it.
 */
final class Model {
    /** A file that is wrong. */
    private static final class Wrong extends Exception {
        private static final long serialVersionUID = 1L;
        final int answer;

        Wrong(int reason, int place) {
            answer = -(1000 * reason + place);
        }
    }

    private record Constant(int tag, String text, long bits, int byteRead, int place) {
    }

    private record Named(String name, Object value) {
    }

    private record Text(String text) {
    }

    private record ClassName(String text) {
    }

    private record Annotation(String type, List<Named> elements) {
    }

    private record File(String name, int flags, String superName, String container, List<String> interfaces,
            List<Annotation> annotations, List<Named> defaults, List<String> texts) {
    }

    private List<Integer> buffer = new ArrayList<>();
    private final List<File> files = new ArrayList<>();
    private final List<String> texts = new ArrayList<>();

    private List<Constant> constants;
    private int place;

    boolean put(long bytes, int n) {
        if (n < 1 || n > 8 || buffer.size() + n > 120) {
            return false;
        }
        String hex = String.format("%016x", bytes);
        for (int i = 8 - n; i < 8; i++) {
            buffer.add(Integer.parseInt(hex.substring(2 * i, 2 * i + 2), 16));
        }
        return true;
    }

    void drop() {
        buffer.clear();
    }

    int length() {
        return buffer.size();
    }

    int read() {
        if (files.size() == 16) {
            return -1;
        }
        try {
            File file = parseFile();
            files.add(file);
            for (String text : file.texts) {
                if (!texts.contains(text)) {
                    texts.add(text);
                }
            }
            return files.size() - 1;
        } catch (Wrong wrong) {
            return wrong.answer;
        } finally {
            buffer = new ArrayList<>();
        }
    }

    private int take() throws Wrong {
        if (place >= buffer.size()) {
            throw new Wrong(1, buffer.size());
        }
        return buffer.get(place++);
    }

    private int takeUpTo(int most) throws Wrong {
        int number = take();
        if (number > most) {
            throw new Wrong(4, place - 1);
        }
        return number;
    }

    private File parseFile() throws Wrong {
        place = 0;
        if (take() != 202) {
            throw new Wrong(2, 0);
        }
        if (take() != 254) {
            throw new Wrong(2, 1);
        }
        parseConstants();
        int flags = takeUpTo(3);
        String name = takeClass(false);
        if (findName(name) >= 0) {
            throw new Wrong(9, place - 1);
        }
        String superName = takeClass(true);
        String container = takeClass(true);
        List<String> interfaces = new ArrayList<>();
        for (int left = takeUpTo(4); left > 0; left--) {
            interfaces.add(takeClass(false));
        }
        List<Annotation> annotations = new ArrayList<>();
        for (int left = takeUpTo(4); left > 0; left--) {
            annotations.add(parseAnnotation(1));
        }
        List<Named> defaults = new ArrayList<>();
        for (int left = takeUpTo(4); left > 0; left--) {
            String element = take(1).text;
            defaults.add(new Named(element, parseValue(1)));
        }
        if (place != buffer.size()) {
            throw new Wrong(8, place);
        }
        List<String> all = new ArrayList<>();
        for (Constant constant : constants) {
            if (constant.tag == 1) {
                all.add(constant.text);
            }
        }
        return new File(name, flags, superName, container, interfaces, annotations, defaults, all);
    }

    private void parseConstants() throws Wrong {
        constants = new ArrayList<>();
        for (int left = takeUpTo(12); left > 0; left--) {
            int tag = take();
            if (tag == 1) {
                StringBuilder text = new StringBuilder();
                for (int letters = takeUpTo(10); letters > 0; letters--) {
                    int letter = take();
                    if (letter < 33 || letter > 126) {
                        throw new Wrong(5, place - 1);
                    }
                    text.append((char) letter);
                }
                constants.add(new Constant(1, text.toString(), 0, 0, 0));
            } else if (tag == 3) {
                long bits = take() * 16777216L + take() * 65536L + take() * 256L + take();
                constants.add(new Constant(3, null, bits, 0, 0));
            } else if (tag == 7) {
                constants.add(new Constant(7, null, 0, take(), place - 1));
            } else {
                throw new Wrong(3, place - 1);
            }
        }
        List<Constant> resolved = new ArrayList<>();
        for (Constant constant : constants) {
            if (constant.tag == 7) {
                int k = constant.byteRead;
                boolean right = k > 0 && k <= constants.size() && constants.get(k - 1).tag == 1
                        && !constants.get(k - 1).text.isEmpty();
                if (!right) {
                    throw new Wrong(6, constant.place);
                }
                resolved.add(new Constant(7, constants.get(k - 1).text, 0, k, constant.place));
            } else {
                resolved.add(constant);
            }
        }
        constants = resolved;
    }

    private Constant take(int tag) throws Wrong {
        int k = take();
        if (k == 0 || k > constants.size() || constants.get(k - 1).tag != tag) {
            throw new Wrong(6, place - 1);
        }
        return constants.get(k - 1);
    }

    private String takeClass(boolean orNone) throws Wrong {
        if (orNone && place < buffer.size() && buffer.get(place) == 0) {
            place++;
            return null;
        }
        return take(7).text;
    }

    private Annotation parseAnnotation(int depth) throws Wrong {
        String type = take(7).text;
        List<Named> elements = new ArrayList<>();
        for (int left = takeUpTo(4); left > 0; left--) {
            String name = take(1).text;
            elements.add(new Named(name, parseValue(depth)));
        }
        return new Annotation(type, elements);
    }

    private Object parseValue(int depth) throws Wrong {
        int first = take();
        if (depth == 5) {
            throw new Wrong(7, place - 1);
        }
        switch ((char) first) {
            case 'I':
                return take(3).bits;
            case 's':
                return new Text(take(1).text);
            case 'c':
                return new ClassName(take(7).text);
            case '@':
                return parseAnnotation(depth + 1);
            case '[':
                List<Object> row = new ArrayList<>();
                for (int left = takeUpTo(4); left > 0; left--) {
                    row.add(parseValue(depth + 1));
                }
                return row;
            default:
                throw new Wrong(3, place - 1);
        }
    }

    int classes() {
        return files.size();
    }

    int texts() {
        return texts.size();
    }

    private String text(int t) {
        return t >= 0 && t < texts.size() ? texts.get(t) : null;
    }

    private File file(int c) {
        return c >= 0 && c < files.size() ? files.get(c) : null;
    }

    private int findName(String name) {
        for (int c = 0; c < files.size(); c++) {
            if (files.get(c).name.equals(name)) {
                return c;
            }
        }
        return -1;
    }

    int letter(int t, int i) {
        String text = text(t);
        if (text == null) {
            return -1;
        }
        return i < 0 || i >= text.length() ? 0 : text.charAt(i);
    }

    int find(int t) {
        return text(t) == null ? -1 : findName(text(t));
    }

    int name(int c) {
        return file(c) == null ? -1 : texts.indexOf(file(c).name);
    }

    int flags(int c) {
        return file(c) == null ? -1 : file(c).flags;
    }

    int superName(int c) {
        return file(c) == null || file(c).superName == null ? -1 : texts.indexOf(file(c).superName);
    }

    /** Grows a set by the steps of the classes that it names, till it grows no more. */
    private Set<String> closure(File start, boolean meta) {
        Set<String> found = new HashSet<>(direct(start, meta));
        int before = -1;
        while (found.size() != before) {
            before = found.size();
            for (File file : files) {
                if (found.contains(file.name)) {
                    found.addAll(direct(file, meta));
                }
            }
        }
        return found;
    }

    private List<String> direct(File file, boolean meta) {
        List<String> names = new ArrayList<>();
        if (meta) {
            for (Annotation annotation : file.annotations) {
                names.add(annotation.type);
            }
            return names;
        }
        names.addAll(file.interfaces);
        if (file.superName != null) {
            names.add(file.superName);
        }
        return names;
    }

    boolean subtype(int c, int t) {
        return file(c) != null && text(t) != null && closure(file(c), false).contains(text(t));
    }

    int subtypeAt(int t, int k) {
        List<Integer> all = new ArrayList<>();
        for (int c = 0; c < files.size(); c++) {
            if (subtype(c, t)) {
                all.add(c);
            }
        }
        return k >= 0 && k < all.size() ? all.get(k) : -1;
    }

    private Set<Integer> chain(int c, String type) {
        Set<Integer> chain = new LinkedHashSet<>();
        chain.add(c);
        int named = findName(type);
        if (named < 0 || files.get(named).flags < 2) {
            return chain;
        }
        int at = findName(files.get(c).superName);
        while (at >= 0 && chain.add(at)) {
            at = findName(files.get(at).superName);
        }
        return chain;
    }

    int holder(int c, int t) {
        if (file(c) == null || text(t) == null) {
            return -1;
        }
        for (int at : chain(c, text(t))) {
            if (direct(files.get(at), true).contains(text(t))) {
                return at;
            }
        }
        return -1;
    }

    private int at(File file, String type) {
        int named = findName(type);
        String container = named < 0 ? null : files.get(named).container;
        int n = 0;
        for (Annotation annotation : file.annotations) {
            n += annotation.type.equals(type) ? 1 : 0;
            boolean holds = container != null && annotation.type.equals(container) && !annotation.elements.isEmpty();
            if (holds && annotation.elements.get(0).value instanceof List<?> row) {
                for (Object inside : row) {
                    n += inside instanceof Annotation a && a.type.equals(type) ? 1 : 0;
                }
            }
        }
        return n;
    }

    int count(int c, int t) {
        if (file(c) == null || text(t) == null) {
            return 0;
        }
        for (int at : chain(c, text(t))) {
            int n = at(files.get(at), text(t));
            if (n > 0) {
                return n;
            }
        }
        return 0;
    }

    boolean meta(int c, int t) {
        return file(c) != null && text(t) != null && closure(file(c), true).contains(text(t));
    }

    private static Object first(List<Named> among, String name) {
        for (Named one : among) {
            if (one.name.equals(name)) {
                return one.value;
            }
        }
        return null;
    }

    private static List<Object> inside(Object value) {
        List<Object> all = new ArrayList<>();
        if (value instanceof Annotation annotation) {
            for (Named element : annotation.elements) {
                all.add(element.value);
            }
        }
        if (value instanceof List<?> row) {
            all.addAll(row);
        }
        return all;
    }

    long value(int c, int t, int element, int path) {
        int at = holder(c, t);
        if (at < 0 || path < 0 || text(element) == null) {
            return -1;
        }
        int index = direct(files.get(at), true).indexOf(text(t));
        Object value = first(files.get(at).annotations.get(index).elements, text(element));
        if (value == null && find(t) >= 0) {
            value = first(files.get(find(t)).defaults, text(element));
        }
        if (value == null) {
            return -1;
        }
        while (path != 0) {
            List<Object> all = inside(value);
            int d = path % 8;
            if (d < 1 || d > all.size()) {
                return -1;
            }
            value = all.get(d - 1);
            path = path / 8;
        }
        return answer(value);
    }

    private long answer(Object value) {
        long step = 4294967296L;
        if (value instanceof Long bits) {
            return step + bits;
        }
        if (value instanceof Text text) {
            return 2 * step + texts.indexOf(text.text);
        }
        if (value instanceof ClassName name) {
            return 3 * step + texts.indexOf(name.text);
        }
        if (value instanceof Annotation annotation) {
            return 5 * step + texts.indexOf(annotation.type);
        }
        return 4 * step + inside(value).size();
    }
}
