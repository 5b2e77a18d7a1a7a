import java.io.IOException;
import java.lang.reflect.Field;
import java.lang.reflect.Method;
import java.lang.reflect.Modifier;
import java.nio.file.Path;
import java.util.HashSet;
import java.util.Set;
import java.util.TreeSet;

/** The public face, and those rules of LANGUAGE.md that can be seen from outside. */
public final class FaceTest {
    private static final Set<String> FACE = Set.of(
            "boolean put(long,int)", "void drop()", "int length()", "int read()", "int classes()", "int texts()",
            "int letter(int,int)", "int find(int)", "int name(int)", "int flags(int)", "int superName(int)",
            "boolean subtype(int,int)", "int subtypeAt(int,int)", "int holder(int,int)", "int count(int,int)",
            "boolean meta(int,int)", "long value(int,int,int,int)");

    public static void main(String[] args) throws IOException {
        face();
        classesInside();
        fields(ClassFileIndex.class);
        words();
        methodLengths();
        Due.finish();
    }

    private static Set<String> faceNames() {
        Set<String> names = new HashSet<>();
        for (String one : FACE) {
            names.add(one.substring(one.indexOf(' ') + 1, one.indexOf('(')));
        }
        return names;
    }

    private static void face() {
        Class<?> outer = ClassFileIndex.class;
        Due.due("public final", outer.getModifiers() == (Modifier.PUBLIC | Modifier.FINAL), true);
        Due.due("constructors", outer.getDeclaredConstructors().length, 1);
        Due.due("public constructors without parameters", outer.getConstructors()[0].getParameterCount(), 0);
        Set<String> seen = new TreeSet<>();
        for (Method method : outer.getDeclaredMethods()) {
            if (!Modifier.isPrivate(method.getModifiers())) {
                seen.add(signature(method));
                Due.due(method + " is public, not static",
                        (method.getModifiers() & (Modifier.PUBLIC | Modifier.STATIC)) == Modifier.PUBLIC, true);
            } else {
                Due.due(method + " has a name of its own", faceNames().contains(method.getName()), false);
            }
        }
        Due.due("methods of the face: " + seen, seen.equals(FACE), true);
        for (Field field : outer.getDeclaredFields()) {
            boolean told = field.getName().equals("NONE") == Modifier.isPublic(field.getModifiers());
            boolean hidden = Modifier.isPublic(field.getModifiers()) || Modifier.isPrivate(field.getModifiers());
            Due.due("field " + field, told && hidden, true);
        }
    }

    private static String signature(Method method) {
        StringBuilder text = new StringBuilder(method.getReturnType() + " " + method.getName() + "(");
        for (Class<?> type : method.getParameterTypes()) {
            text.append(text.charAt(text.length() - 1) == '(' ? "" : ",").append(type);
        }
        return text.append(")").toString();
    }

    private static void classesInside() {
        Set<String> names = faceNames();
        Class<?>[] inside = ClassFileIndex.class.getDeclaredClasses();
        Due.due("at most twelve classes", inside.length < 12, true);
        for (Class<?> one : inside) {
            Due.due(one + " is static", Modifier.isStatic(one.getModifiers()), true);
            Due.due(one + " is not public", Modifier.isPublic(one.getModifiers()), false);
            for (Method method : one.getDeclaredMethods()) {
                Due.due(method + " has a name of its own", names.contains(method.getName()), false);
                Due.due(method + " takes at most seven", method.getParameterCount() <= 7, true);
            }
            fields(one);
        }
    }

    /** Static ones are constants, and a class has at most some twenty others. */
    private static void fields(Class<?> one) {
        int others = 0;
        for (Field field : one.getDeclaredFields()) {
            if (Modifier.isStatic(field.getModifiers())) {
                boolean constant = Modifier.isFinal(field.getModifiers()) && field.getType() == int.class;
                Due.due("static field " + field, constant, true);
            } else {
                others++;
            }
        }
        Due.due("at most twenty fields in " + one, others <= 20, true);
    }

    private static String code() throws IOException {
        String source = java.nio.file.Files.readString(Path.of("src/main/java/ClassFileIndex.java"));
        return source.replaceAll("(?s)/\\*.*?\\*/", " ").replaceAll("//[^\n]*", " ");
    }

    /** A method starts and ends behind four spaces, and behind eight in a class inside. */
    private static void methodLengths() throws IOException {
        int methods = 0;
        int start = 0;
        String indent = " ".repeat(4);
        String[] lines = code().split("\n");
        for (int i = 0; i < lines.length; i++) {
            if (lines[i].startsWith("    private static final class ")) {
                indent = " ".repeat(8);
            } else if (lines[i].equals(indent + "}")) {
                Due.due("at most sixty lines from " + lines[start].trim(), start > 0 && i - start < 60, true);
                methods++;
                start = 0;
            } else if (lines[i].equals("    }")) {
                indent = " ".repeat(4);
            } else if (start == 0 && lines[i].matches(indent + "[A-Za-z].*[{,]")) {
                start = i;
            }
        }
        Due.due("methods were seen", methods > 50, true);
    }

    private static void words() throws IOException {
        String code = code();
        Set<String> words = new HashSet<>(java.util.List.of(code.split("[^A-Za-z_]+")));
        String[] refused = {"throw", "throws", "try", "catch", "finally", "synchronized", "assert", "package",
            "HashMap", "Thread", "Random", "Object", "hashCode", "toString", "var", "goto", "native", "volatile"};
        for (String word : refused) {
            Due.due("the word " + word, words.contains(word), false);
        }
        Due.due("no texts", code.contains("\""), false);
        Due.due("no lambda", code.contains("->"), false);
        Due.due("no method reference", code.contains("::"), false);
        String[] imports = code.split("import ");
        Due.due("imports", imports.length - 1, 1);
        Due.due("the import of Arrays", imports[1].startsWith("java.util.Arrays;"), true);
    }
}
