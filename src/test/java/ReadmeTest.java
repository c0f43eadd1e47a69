import java.lang.reflect.Method;
import java.lang.reflect.Modifier;
import java.net.URL;
import java.net.URLClassLoader;
import java.nio.file.Files;
import java.nio.file.Path;
import java.util.ArrayList;
import java.util.List;
import java.util.Set;
import java.util.TreeSet;
import java.util.regex.Matcher;
import java.util.regex.Pattern;
import java.util.stream.Stream;
import javax.tools.JavaCompiler;
import javax.tools.ToolProvider;

/** What README.md says: its examples, one behind the other, and the names in its tables. */
public final class ReadmeTest {
    private static final Path README = Path.of("README.md");
    private static final Path TESTS = Path.of("src/test/java");
    private static final Pattern EXAMPLE = Pattern.compile("```java\n(.*?)```", Pattern.DOTALL);
    /** A line that has an answer: its name, the call, and the answer that is due. */
    private static final Pattern ANSWER = Pattern.compile("int (\\w+) = (.*); +// (-?\\d+): .+");
    private static final Pattern NAME = Pattern.compile("`(\\w+)`");
    private static final Check check = new Check("ReadmeTest");

    public static void main(String[] args) throws Exception {
        String page = Files.readString(README);
        examples(page);
        calls(page);
        tests(page);
        check.finish();
    }

    private static void examples(String page) throws Exception {
        StringBuilder code = new StringBuilder();
        for (Matcher example = EXAMPLE.matcher(page); example.find();) {
            code.append(example.group(1));
        }
        List<String> names = new ArrayList<>();
        List<Integer> due = new ArrayList<>();
        for (String line : code.toString().split("\n")) {
            Matcher answer = ANSWER.matcher(line);
            if (answer.matches()) {
                names.add(answer.group(1));
                due.add(Integer.valueOf(answer.group(3)));
            }
            boolean isOther = line.isEmpty() || line.startsWith("// ") || line.endsWith("new PeerStores();");
            check.same("it says what it answers: " + line, isOther || answer.matches(), true);
        }
        check.same("there are answers", names.isEmpty(), false);
        int[] got = run(code.toString(), names);
        for (int i = 0; i < got.length; i++) {
            check.same(names.get(i), got[i], due.get(i));
        }
    }

    /** The values of the names, behind the code. */
    private static int[] run(String code, List<String> names) throws Exception {
        Path folder = Files.createTempDirectory("readme");
        Path source = folder.resolve("Example.java");
        Files.writeString(source, "public final class Example {\n    public static int[] run() {\n" + code
                + "        return new int[] {" + String.join(", ", names) + "};\n    }\n}\n");
        JavaCompiler compiler = ToolProvider.getSystemJavaCompiler();
        int failed = compiler.run(null, null, null, "-cp", System.getProperty("java.class.path"),
                "-d", folder.toString(), source.toString());
        check.same("the code with which javac ends", failed, 0);
        int[] values = {};
        if (failed == 0) {
            try (URLClassLoader loader = new URLClassLoader(new URL[] {folder.toUri().toURL()})) {
                values = (int[]) loader.loadClass("Example").getMethod("run").invoke(null);
            }
        }
        try (Stream<Path> inside = Files.list(folder)) {
            for (Path path : inside.toList()) {
                Files.delete(path);
            }
        }
        Files.delete(folder);
        return values;
    }

    private static void calls(String page) {
        Set<String> due = new TreeSet<>();
        for (Method method : PeerStores.class.getDeclaredMethods()) {
            if (Modifier.isPublic(method.getModifiers())) {
                due.add(method.getName());
            }
        }
        check.same("the table of calls", firstColumn(page, "| calls |"), due);
    }

    private static void tests(String page) throws Exception {
        Set<String> due = new TreeSet<>();
        try (Stream<Path> inside = Files.list(TESTS)) {
            for (Path path : inside.toList()) {
                String name = path.getFileName().toString();
                if (name.endsWith("Test.java")) {
                    due.add(name.substring(0, name.length() - ".java".length()));
                }
            }
        }
        check.same("the table of tests", firstColumn(page, "| test |"), due);
    }

    /** The names in the first column of the table that begins so. */
    private static Set<String> firstColumn(String page, String head) {
        Set<String> names = new TreeSet<>();
        int begin = page.indexOf(head);
        check.same("there is a table " + head, begin >= 0, true);
        String[] lines = page.substring(Math.max(begin, 0)).split("\n");
        for (int i = 2; i < lines.length && lines[i].startsWith("|"); i++) {
            Matcher name = NAME.matcher(lines[i].split("\\|")[1]);
            while (name.find()) {
                check.same("once in its table: " + name.group(1), names.add(name.group(1)), true);
            }
        }
        return names;
    }
}
