import java.io.IOException;
import java.lang.reflect.InvocationTargetException;
import java.lang.reflect.Method;
import java.lang.reflect.Modifier;
import java.net.URL;
import java.net.URLClassLoader;
import java.nio.file.DirectoryStream;
import java.nio.file.Files;
import java.nio.file.Path;
import java.util.ArrayList;
import java.util.List;
import java.util.Set;
import java.util.TreeSet;
import java.util.regex.Matcher;
import java.util.regex.Pattern;
import javax.tools.JavaCompiler;
import javax.tools.ToolProvider;

/** What README.md says is so: its lines of code answer as they say, its lists name what there is. */
public final class ReadmeTest {
    private static final String PAGE = "README.md";
    private static final String TESTS = "src/test/java";
    private static final String EXAMPLE = "ReadmeLines";
    private static final Pattern CODE = Pattern.compile("```java\n(.*?)```", Pattern.DOTALL);
    private static final Pattern ASKED =
        Pattern.compile("(?m)^( *)(x\\.\\w+\\(.*\\)); +// (-?\\d+|[A-Z]+)\\b.*$");
    private static final Pattern ANY_CALL = Pattern.compile("(?m)^ *x\\.");

    private static final Check check = new Check();

    public static void main(String[] args) throws IOException, ReflectiveOperationException {
        String page = Files.readString(Path.of(PAGE));
        check.about(PAGE);
        linesAnswerAsTheySay(page);
        everyCallIsNamed(page);
        everyTestIsNamed(page);
        check.end();
    }

    private static void linesAnswerAsTheySay(String page) throws IOException, ReflectiveOperationException {
        Matcher found = CODE.matcher(page);
        check.isTrue("it has lines of code", found.find());
        String lines = found.group(1);
        check.due("lines that tell their answer", count(ASKED, lines), count(ANY_CALL, lines));
        Path out = Files.createTempDirectory("readme");
        try {
            compile(asked(lines), out);
            run(out);
        } finally {
            removeAll(out);
        }
    }

    private static long count(Pattern pattern, String text) {
        return pattern.matcher(text).results().count();
    }

    /** The page's lines as a class that gathers what was answered and what is due. */
    private static String asked(String lines) {
        String body = ASKED.matcher(lines).replaceAll(m -> {
            String want = m.group(3);
            String due = Character.isUpperCase(want.charAt(0)) ? "StatueSquare." + want : want + "L";
            return Matcher.quoteReplacement(m.group(1) + "calls.add(\"" + m.group(2) + "\"); answers.add(new long[] {"
                + m.group(2) + ", " + due + "});");
        });
        return "public final class " + EXAMPLE + " {\n"
            + "public static void run(java.util.List<String> calls, java.util.List<long[]> answers) {\n"
            + body + "}\n}\n";
    }

    private static void compile(String source, Path out) throws IOException {
        Path file = out.resolve(EXAMPLE + ".java");
        Files.writeString(file, source);
        JavaCompiler compiler = ToolProvider.getSystemJavaCompiler();
        check.isTrue("there is a compiler", compiler != null);
        int code = compiler.run(null, null, null, "-d", out.toString(),
            "-cp", System.getProperty("java.class.path"), file.toString());
        check.due("compiling its lines", code, 0);
    }

    private static void run(Path out) throws IOException, ReflectiveOperationException {
        List<String> calls = new ArrayList<>();
        List<long[]> answers = new ArrayList<>();
        URL[] where = {out.toUri().toURL()};
        try (URLClassLoader loader = new URLClassLoader(where, ReadmeTest.class.getClassLoader())) {
            loader.loadClass(EXAMPLE).getMethod("run", List.class, List.class).invoke(null, calls, answers);
        } catch (InvocationTargetException e) {
            check.isTrue("its lines end without " + e.getCause(), false);
        }
        for (int i = 0; i < answers.size(); i++) {
            check.due(calls.get(i), answers.get(i)[0], answers.get(i)[1]);
        }
    }

    private static void removeAll(Path out) throws IOException {
        try (DirectoryStream<Path> files = Files.newDirectoryStream(out)) {
            for (Path file : files) {
                Files.delete(file);
            }
        }
        Files.delete(out);
    }

    private static void everyCallIsNamed(String page) {
        String table = page.substring(page.indexOf("## The calls"), page.indexOf("## Tests"));
        Set<String> face = new TreeSet<>();
        for (Method m : StatueSquare.class.getDeclaredMethods()) {
            if (Modifier.isPublic(m.getModifiers())) {
                face.add(m.getName());
            }
        }
        check.isTrue("its table has every call: " + face, named(table, "`(\\w+)`").equals(face));
    }

    private static void everyTestIsNamed(String page) throws IOException {
        Set<String> there = new TreeSet<>();
        try (DirectoryStream<Path> files = Files.newDirectoryStream(Path.of(TESTS), "*Test.java")) {
            for (Path file : files) {
                there.add(file.getFileName().toString().replace(".java", ""));
            }
        }
        String tests = page.substring(page.indexOf("## Tests"));
        check.isTrue("it tells every test: " + there, named(tests, "`(\\w+Test)`").equals(there));
    }

    private static Set<String> named(String text, String pattern) {
        Set<String> names = new TreeSet<>();
        Matcher m = Pattern.compile(pattern).matcher(text);
        while (m.find()) {
            names.add(m.group(1));
        }
        return names;
    }
}
