import java.io.File;
import java.io.IOException;
import java.lang.reflect.Method;
import java.net.URL;
import java.net.URLClassLoader;
import java.nio.file.Files;
import java.nio.file.Path;
import java.util.Set;
import java.util.TreeSet;
import java.util.regex.Matcher;
import java.util.regex.Pattern;
import javax.tools.ToolProvider;

/** README.md: the calls that it shows are compiled and run as they stand there, and what it lists is there. */
public final class ReadmeTest {
    private static final Pattern BLOCK = Pattern.compile("^```java\\n(.*?)^```$", Pattern.MULTILINE | Pattern.DOTALL);
    private static final Pattern ANSWERED = Pattern.compile("^(index\\..*\\)); *// -> (.*)$", Pattern.MULTILINE);
    private static final Pattern LISTED = Pattern.compile("^\\| (\\w+Test) \\|", Pattern.MULTILINE);

    public static void main(String[] args) throws IOException, ReflectiveOperationException {
        String readme = Files.readString(Path.of("README.md"));
        StringBuilder shown = new StringBuilder();
        Matcher block = BLOCK.matcher(readme);
        while (block.find()) {
            shown.append(block.group(1));
        }
        answers(shown.toString());
        wholeFace(shown.toString());
        testsListed(readme);
        Due.due("README.md tells the command that runs the tests", readme.contains("```sh\n.ci/run\n```"), true);
        Due.finish();
    }

    /** Each "call; // -> answer" of README.md becomes a row of three texts: the call, its answer, the one told. */
    private static void answers(String shown) throws IOException, ReflectiveOperationException {
        String rows = ANSWERED.matcher(shown).replaceAll(found -> Matcher.quoteReplacement("rows.add(new String[] {\""
                + found.group(1) + "\", String.valueOf(" + found.group(1) + "), String.valueOf(" + found.group(2) + ")});"));
        Due.due("answers that README.md tells in another form", rows.contains("->"), false);
        String program = "public final class ReadmeCalls {\n"
                + "public static java.util.List<String[]> rows() {\n"
                + "java.util.List<String[]> rows = new java.util.ArrayList<>();\n" + rows + "return rows;\n}\n}\n";
        int told = 0;
        for (Object one : (Iterable<?>) compiled("ReadmeCalls", program).getMethod("rows").invoke(null)) {
            String[] row = (String[]) one;
            Due.due("README.md: " + row[0] + " answers " + row[1] + ", told is " + row[2], row[1].equals(row[2]), true);
            told++;
        }
        Due.due("README.md tells answers", told > 0, true);
    }

    private static Class<?> compiled(String name, String program) throws IOException, ReflectiveOperationException {
        Path place = Files.createTempDirectory("readme");
        Path source = place.resolve(name + ".java");
        Path made = place.resolve(name + ".class");
        Files.writeString(source, program);
        int end = ToolProvider.getSystemJavaCompiler().run(null, null, null, "-d", place.toString(),
                "-cp", System.getProperty("java.class.path"), source.toString());
        Due.due("the calls of README.md compile", end, 0);
        URL[] places = {place.toUri().toURL()};
        try (URLClassLoader loader = new URLClassLoader(places)) {
            return loader.loadClass(name);
        } finally {
            Files.deleteIfExists(made);
            Files.delete(source);
            Files.delete(place);
        }
    }

    private static void wholeFace(String shown) {
        Due.due("README.md makes an object", shown.contains("new ClassFileIndex()"), true);
        for (Method method : ClassFileIndex.class.getMethods()) {
            if (method.getDeclaringClass() == ClassFileIndex.class) {
                String call = "index." + method.getName() + "(";
                Due.due("README.md shows " + call + "..)", shown.contains(call), true);
            }
        }
    }

    private static void testsListed(String readme) {
        Set<String> listed = new TreeSet<>();
        Matcher row = LISTED.matcher(readme);
        while (row.find()) {
            listed.add(row.group(1));
        }
        Set<String> there = new TreeSet<>();
        for (String name : new File("src/test/java").list()) {
            if (name.endsWith("Test.java")) {
                there.add(name.substring(0, name.length() - ".java".length()));
            }
        }
        Due.due("README.md lists " + listed + ", there are " + there, listed.equals(there), true);
    }
}
