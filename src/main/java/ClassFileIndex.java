import java.util.Arrays;

/**
 * An index of class files that are read from bytes without loading anything. The document that
 * tells what each call answers is DOC.md; the words in capital letters there are the ones used here.
 */
public final class ClassFileIndex {
    public static final int NONE = -1;

    private static final int MOST_BYTES = 120;
    private static final int MOST_PUT = 8;
    private static final int MOST_CLASSES = 16;
    private static final int MOST_CONSTANTS = 12;
    private static final int MOST_TEXTS = MOST_CLASSES * MOST_CONSTANTS;
    private static final int MOST_LETTERS = 10;
    private static final int MOST_FLAGS = 3;
    /** One bound for interfaces, annotations, elements, defaults and the values of a row. */
    private static final int MOST_PARTS = 4;
    private static final int WRONG_DEPTH = 5;

    private static final int FIRST_BYTE = 202;
    private static final int SECOND_BYTE = 254;
    private static final int LEAST_LETTER = 33;
    private static final int GREATEST_LETTER = 126;
    private static final int INHERITED_FLAG = 2;

    private static final int PATH_BASE = 8;
    /** No int has more digits to the base 8. */
    private static final int MOST_PATH_STEPS = 11;

    /** The kinds of values are numbered as value() tells them; constants have the first three. */
    private static final int NO_KIND = 0;
    private static final int INT = 1;
    private static final int TEXT = 2;
    private static final int CLASS = 3;
    private static final int ROW = 4;
    private static final int ANNOTATION = 5;

    private static final int ENDS = 1;
    private static final int WRONG_START = 2;
    private static final int WRONG_TAG = 3;
    private static final int TOO_MANY = 4;
    private static final int NO_LETTER = 5;
    private static final int WRONG_CONSTANT = 6;
    private static final int TOO_DEEP = 7;
    private static final int BYTES_FOLLOW = 8;
    private static final int SAME_NAME = 9;

    private final int[] buffer;
    private int held;
    private final Texts knownTexts;
    private final Classes knownClasses;
    private final Reader reader;

    public ClassFileIndex() {
        buffer = new int[MOST_BYTES];
        held = 0;
        knownTexts = new Texts();
        knownClasses = new Classes();
        reader = new Reader();
    }

    public boolean put(long bytes, int n) {
        if (n < 1 || n > MOST_PUT || held + n > MOST_BYTES) {
            return false;
        }
        for (int i = n - 1; i >= 0; i--) {
            buffer[held] = (int) (bytes >>> (8 * i)) & 255;
            held++;
        }
        return true;
    }

    public void drop() {
        held = 0;
    }

    public int length() {
        return held;
    }

    public int read() {
        if (knownClasses.size == MOST_CLASSES) {
            return NONE;
        }
        int textsBefore = knownTexts.size;
        ClassFile file = reader.readFile(buffer, held, knownTexts, knownClasses);
        held = 0;
        if (file == null) {
            knownTexts.shrink(textsBefore);
            return -reader.fault;
        }
        return knownClasses.add(file);
    }

    public int classes() {
        return knownClasses.size;
    }

    public int texts() {
        return knownTexts.size;
    }

    public int letter(int t, int i) {
        return knownTexts.has(t) ? knownTexts.letterOf(t, i) : NONE;
    }

    public int find(int t) {
        return knownClasses.named(t);
    }

    public int name(int c) {
        return knownClasses.has(c) ? knownClasses.files[c].name : NONE;
    }

    public int flags(int c) {
        return knownClasses.has(c) ? knownClasses.files[c].flags : NONE;
    }

    public int superName(int c) {
        return knownClasses.has(c) ? knownClasses.files[c].superName : NONE;
    }

    public boolean subtype(int c, int t) {
        return areThere(c, t) && knownClasses.leadsTo(c, t, false);
    }

    public int subtypeAt(int t, int k) {
        if (k < 0 || !knownTexts.has(t)) {
            return NONE;
        }
        int before = 0;
        for (int c = 0; c < knownClasses.size; c++) {
            if (knownClasses.leadsTo(c, t, false)) {
                if (before == k) {
                    return c;
                }
                before++;
            }
        }
        return NONE;
    }

    public int holder(int c, int t) {
        if (!areThere(c, t)) {
            return NONE;
        }
        int steps = knownClasses.chainSteps(t);
        int at = c;
        for (int i = 0; i < steps && at != NONE; i++) {
            if (knownClasses.files[at].firstAnnotation(t) != null) {
                return at;
            }
            at = knownClasses.superclass(at);
        }
        return NONE;
    }

    public int count(int c, int t) {
        if (!areThere(c, t)) {
            return 0;
        }
        int container = knownClasses.containerOf(t);
        int steps = knownClasses.chainSteps(t);
        int at = c;
        for (int i = 0; i < steps && at != NONE; i++) {
            int here = knownClasses.files[at].annotationsOf(t, container);
            if (here > 0) {
                return here;
            }
            at = knownClasses.superclass(at);
        }
        return 0;
    }

    public boolean meta(int c, int t) {
        return areThere(c, t) && knownClasses.leadsTo(c, t, true);
    }

    public long value(int c, int t, int element, int path) {
        int at = holder(c, t);
        if (at == NONE || path < 0) {
            return NONE;
        }
        Value found = elementOrDefault(at, t, element);
        int rest = path;
        for (int i = 0; i < MOST_PATH_STEPS && rest > 0 && found != null; i++) {
            found = found.parts.nth(rest % PATH_BASE);
            rest = rest / PATH_BASE;
        }
        return found == null ? NONE : found.answer();
    }

    private boolean areThere(int c, int t) {
        return knownClasses.has(c) && knownTexts.has(t);
    }

    private Value elementOrDefault(int at, int t, int element) {
        Value annotation = knownClasses.files[at].firstAnnotation(t);
        Value found = annotation == null ? null : annotation.parts.firstNamed(element);
        int type = knownClasses.named(t);
        if (found == null && type != NONE) {
            found = knownClasses.files[type].defaults.firstNamed(element);
        }
        return found;
    }

    /** The texts that have a number; their letters stand in one row, MOST_LETTERS places for each. */
    private static final class Texts {
        private final byte[] letters;
        private final int[] lengths;
        int size;

        Texts() {
            letters = new byte[MOST_TEXTS * MOST_LETTERS];
            lengths = new int[MOST_TEXTS];
            size = 0;
        }

        boolean has(int t) {
            return t >= 0 && t < size;
        }

        int lengthOf(int t) {
            return has(t) ? lengths[t] : 0;
        }

        int letterOf(int t, int i) {
            return i >= 0 && i < lengthOf(t) ? letters[t * MOST_LETTERS + i] : 0;
        }

        /** Takes back the texts of a file that turned out to be wrong. */
        void shrink(int before) {
            size = before;
        }

        /** The number of the text that stands in the bytes; a new one when it has none yet. */
        int numberOf(int[] bytes, int from, int length) {
            for (int t = 0; t < size; t++) {
                if (isText(t, bytes, from, length)) {
                    return t;
                }
            }
            if (size == MOST_TEXTS) {
                return NONE;
            }
            for (int i = 0; i < length; i++) {
                letters[size * MOST_LETTERS + i] = (byte) bytes[from + i];
            }
            lengths[size] = length;
            size++;
            return size - 1;
        }

        private boolean isText(int t, int[] bytes, int from, int length) {
            if (lengths[t] != length) {
                return false;
            }
            for (int i = 0; i < length; i++) {
                if (letters[t * MOST_LETTERS + i] != bytes[from + i]) {
                    return false;
                }
            }
            return true;
        }
    }

    /** Values in their order: a row's (without names), an annotation's, or a file's defaults. */
    private static final class Parts {
        final int[] names;
        final Value[] values;

        Parts(int size) {
            names = new int[size];
            values = new Value[size];
        }

        /** The first value of that name, or null. */
        Value firstNamed(int name) {
            for (int i = 0; i < names.length; i++) {
                if (names[i] == name) {
                    return values[i];
                }
            }
            return null;
        }

        /** The d-th value, from 1, or null. */
        Value nth(int d) {
            return d >= 1 && d <= values.length ? values[d - 1] : null;
        }
    }

    /** A value, or an annotation of a file, which is held as a value too. */
    private static final class Value {
        final int kind;
        /** An int's bits, a row's length, or the number of a text: itself, a name or a type. */
        final int number;
        final Parts parts;

        Value(int kind, int number, Parts parts) {
            this.kind = kind;
            this.number = number;
            this.parts = parts;
        }

        long answer() {
            return ((long) kind << 32) + (number & 0xFFFFFFFFL);
        }

        boolean isAnnotationOf(int t) {
            return kind == ANNOTATION && number == t;
        }

        /** How many annotations of type t are values of the row that is the first element. */
        int contained(int t) {
            Value row = parts.nth(1);
            if (row == null || row.kind != ROW) {
                return 0;
            }
            int found = 0;
            for (int d = 1; d <= row.parts.values.length; d++) {
                Value inside = row.parts.nth(d);
                if (inside != null && inside.isAnnotationOf(t)) {
                    found++;
                }
            }
            return found;
        }
    }

    /** What a file that was read rightly tells of its class; all names are numbers of texts. */
    private static final class ClassFile {
        final int name;
        final int flags;
        final int superName;
        final int container;
        final Value[] annotations;
        final Parts defaults;
        private final int[] supertypes;
        private final int[] annotationTypes;

        ClassFile(int name, int flags, int superName, int container, int[] interfaces,
                Value[] annotations, Parts defaults) {
            this.name = name;
            this.flags = flags;
            this.superName = superName;
            this.container = container;
            this.annotations = annotations;
            this.defaults = defaults;
            int supers = superName == NONE ? 0 : 1;
            supertypes = new int[supers + interfaces.length];
            if (supers == 1) {
                supertypes[0] = superName;
            }
            System.arraycopy(interfaces, 0, supertypes, supers, interfaces.length);
            annotationTypes = new int[annotations.length];
            for (int i = 0; i < annotations.length; i++) {
                annotationTypes[i] = annotations[i].number;
            }
        }

        int[] directTypes(boolean ofAnnotations) {
            return ofAnnotations ? annotationTypes : supertypes;
        }

        /** The file's first annotation of type t, or null. */
        Value firstAnnotation(int t) {
            for (int i = 0; i < annotations.length; i++) {
                if (annotations[i].isAnnotationOf(t)) {
                    return annotations[i];
                }
            }
            return null;
        }

        /** How many annotations of type t are AT this class, when t's container is as told. */
        int annotationsOf(int t, int container) {
            int found = 0;
            for (int i = 0; i < annotations.length; i++) {
                if (annotations[i].isAnnotationOf(t)) {
                    found++;
                }
                if (container != NONE && annotations[i].isAnnotationOf(container)) {
                    found += annotations[i].contained(t);
                }
            }
            return found;
        }
    }

    /** The classes that were read, in the order of their numbers. */
    private static final class Classes {
        final ClassFile[] files;
        int size;
        /** For each text the class that it names. */
        private final int[] classOfText;
        /** Used again by each search: the classes to look through, and which ones stand there. */
        private final int[] queue;
        private final boolean[] queued;

        Classes() {
            files = new ClassFile[MOST_CLASSES];
            size = 0;
            classOfText = new int[MOST_TEXTS];
            Arrays.fill(classOfText, NONE);
            queue = new int[MOST_CLASSES];
            queued = new boolean[MOST_CLASSES];
        }

        boolean has(int c) {
            return c >= 0 && c < size;
        }

        int add(ClassFile file) {
            files[size] = file;
            classOfText[file.name] = size;
            size++;
            return size - 1;
        }

        int named(int t) {
            return t >= 0 && t < MOST_TEXTS ? classOfText[t] : NONE;
        }

        int superclass(int c) {
            return named(files[c].superName);
        }

        int containerOf(int t) {
            int c = named(t);
            return c == NONE ? NONE : files[c].container;
        }

        /** How far an annotation of type t is looked for: the number of classes bounds a circle. */
        int chainSteps(int t) {
            int c = named(t);
            boolean inherited = c != NONE && (files[c].flags & INHERITED_FLAG) != 0;
            return inherited ? size : 1;
        }

        /** Whether text t is reached from class c by its supertypes, or by annotations' types. */
        boolean leadsTo(int c, int t, boolean byAnnotations) {
            for (int i = 0; i < MOST_CLASSES; i++) {
                queued[i] = i == c;
            }
            queue[0] = c;
            int end = 1;
            for (int i = 0; i < end && i < MOST_CLASSES; i++) {
                int[] direct = files[queue[i]].directTypes(byAnnotations);
                for (int j = 0; j < direct.length; j++) {
                    if (direct[j] == t) {
                        return true;
                    }
                    int next = named(direct[j]);
                    if (next != NONE && !queued[next]) {
                        queued[next] = true;
                        queue[end] = next;
                        end++;
                    }
                }
            }
            return false;
        }
    }

    /**
     * Reads one file. The first fault stays: after it no byte is read, every number reads as 0, and
     * so the rest of the reading runs out without doing anything.
     */
    private static final class Reader {
        /** 1000 * reason + place, or 0 as long as nothing is wrong. */
        int fault;
        private int[] bytes;
        private int end;
        private int place;
        private Texts texts;
        private Classes classes;
        private int constants;
        private final int[] kinds;
        /** An int's bits, a text's number; for a class first its byte, later its name's number. */
        private final int[] numbers;
        private final int[] places;
        private final Parts noParts;

        Reader() {
            kinds = new int[MOST_CONSTANTS + 1];
            numbers = new int[MOST_CONSTANTS + 1];
            places = new int[MOST_CONSTANTS + 1];
            noParts = new Parts(0);
        }

        /** The class, or null when the file is wrong; texts are numbered in both cases. */
        ClassFile readFile(int[] bytes, int end, Texts texts, Classes classes) {
            this.bytes = bytes;
            this.end = end;
            this.texts = texts;
            this.classes = classes;
            place = 0;
            fault = 0;
            readStart(FIRST_BYTE);
            readStart(SECOND_BYTE);
            readConstants();
            nameClassConstants();
            int flags = readAtMost(MOST_FLAGS);
            int name = readName();
            int superName = readClassOrNone();
            int container = readClassOrNone();
            int[] interfaces = readInterfaces();
            Value[] annotations = readAnnotations();
            Parts defaults = readParts(true, 1);
            if (place < end) {
                refuse(BYTES_FOLLOW, place);
            }
            if (fault != 0) {
                return null;
            }
            return new ClassFile(name, flags, superName, container, interfaces, annotations, defaults);
        }

        private void refuse(int reason, int where) {
            if (fault == 0) {
                fault = 1000 * reason + where;
            }
        }

        private int next() {
            if (fault != 0) {
                return 0;
            }
            if (place >= end) {
                fault = 1000 * ENDS + end;
                return 0;
            }
            place++;
            return bytes[place - 1];
        }

        private int readAtMost(int most) {
            int at = place;
            int number = next();
            if (number > most) {
                refuse(TOO_MANY, at);
                return 0;
            }
            return number;
        }

        private void readStart(int due) {
            int at = place;
            if (next() != due) {
                refuse(WRONG_START, at);
            }
        }

        private void readConstants() {
            constants = readAtMost(MOST_CONSTANTS);
            for (int k = 1; k <= constants && fault == 0; k++) {
                int at = place;
                int tag = next();
                if (tag == 1) {
                    kinds[k] = TEXT;
                    numbers[k] = readText();
                } else if (tag == 3) {
                    kinds[k] = INT;
                    numbers[k] = readInt();
                } else if (tag == 7) {
                    kinds[k] = CLASS;
                    places[k] = place;
                    numbers[k] = next();
                } else {
                    refuse(WRONG_TAG, at);
                }
            }
        }

        private int readText() {
            int length = readAtMost(MOST_LETTERS);
            int from = place;
            for (int i = 0; i < length; i++) {
                int at = place;
                int letter = next();
                if (letter < LEAST_LETTER || letter > GREATEST_LETTER) {
                    refuse(NO_LETTER, at);
                }
            }
            return fault == 0 ? texts.numberOf(bytes, from, length) : NONE;
        }

        private int readInt() {
            int bits = 0;
            for (int i = 0; i < 4; i++) {
                bits = (bits << 8) | next();
            }
            return bits;
        }

        /** Only now, since the text of a class may come later than the class. */
        private void nameClassConstants() {
            for (int k = 1; k <= constants && fault == 0; k++) {
                if (kinds[k] == CLASS) {
                    int named = numbers[k];
                    if (isConstant(named, TEXT) && texts.lengthOf(numbers[named]) > 0) {
                        numbers[k] = numbers[named];
                    } else {
                        refuse(WRONG_CONSTANT, places[k]);
                    }
                }
            }
        }

        private boolean isConstant(int k, int kind) {
            return k >= 1 && k <= constants && kinds[k] == kind;
        }

        /** What the constant holds whose number is read, if it is of that kind. */
        private int readConstant(int kind) {
            int at = place;
            int k = next();
            if (!isConstant(k, kind)) {
                refuse(WRONG_CONSTANT, at);
                return NONE;
            }
            return numbers[k];
        }

        private int readName() {
            int at = place;
            int name = readConstant(CLASS);
            if (classes.named(name) != NONE) {
                refuse(SAME_NAME, at);
            }
            return name;
        }

        private int readClassOrNone() {
            if (place < end && bytes[place] == 0) {
                place++;
                return NONE;
            }
            return readConstant(CLASS);
        }

        private int[] readInterfaces() {
            int[] interfaces = new int[readAtMost(MOST_PARTS)];
            for (int i = 0; i < interfaces.length; i++) {
                interfaces[i] = readConstant(CLASS);
            }
            return interfaces;
        }

        private Value[] readAnnotations() {
            Value[] annotations = new Value[readAtMost(MOST_PARTS)];
            for (int i = 0; i < annotations.length; i++) {
                annotations[i] = readAnnotation(1);
            }
            return annotations;
        }

        private Value readAnnotation(int depth) {
            int type = readConstant(CLASS);
            return new Value(ANNOTATION, type, readParts(true, depth));
        }

        private Value readRow(int depth) {
            Parts parts = readParts(false, depth);
            return new Value(ROW, parts.values.length, parts);
        }

        private Parts readParts(boolean named, int depth) {
            Parts parts = new Parts(readAtMost(MOST_PARTS));
            for (int i = 0; i < parts.values.length; i++) {
                parts.names[i] = named ? readConstant(TEXT) : NONE;
                parts.values[i] = readValue(depth);
            }
            return parts;
        }

        private Value readValue(int depth) {
            int at = place;
            int tag = next();
            if (depth >= WRONG_DEPTH) {
                refuse(TOO_DEEP, at);
                return new Value(NO_KIND, 0, noParts);
            }
            switch (tag) {
                case 73:
                    return new Value(INT, readConstant(INT), noParts);
                case 115:
                    return new Value(TEXT, readConstant(TEXT), noParts);
                case 99:
                    return new Value(CLASS, readConstant(CLASS), noParts);
                case 91:
                    return readRow(depth + 1);
                case 64:
                    return readAnnotation(depth + 1);
                default:
                    refuse(WRONG_TAG, at);
                    return new Value(NO_KIND, 0, noParts);
            }
        }
    }
}
