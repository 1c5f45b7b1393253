import java.io.ByteArrayOutputStream;
import java.io.PrintStream;
import java.lang.reflect.Method;
import java.lang.reflect.Modifier;
import java.net.URL;
import java.net.URLClassLoader;
import java.nio.file.Files;
import java.nio.file.Path;
import java.util.ArrayList;
import java.util.List;
import java.util.regex.Matcher;
import java.util.regex.Pattern;
import javax.tools.JavaCompiler;
import javax.tools.ToolProvider;

/** README.md: its example prints what it says, and its tables leave nothing out. */
public final class ReadmeTest {
    private static final Pattern SHOWN = Pattern.compile("\\s*show\\(.*\\);\\s*// ([^:]+?)\\s*(:.*)?");
    // These calls can't be refused, so the table has no row for them.
    private static final List<String> NEVER_REFUSED = List.of("fault", "pairs", "clear");

    public static void main(String[] args) throws Exception {
        String page = Files.readString(Path.of("README.md"));
        String example = between(page, "```java\n", "```\n");
        printsWhatItSays(example);
        usesEveryCall(example);
        tellsWhatIsRefused(between(page, "## What is refused", "## An example"));
        namesEveryTest(between(page, "| test | promises |", "A boundary case"));
        Due.close("ReadmeTest");
    }

    private static String between(String page, String ahead, String behind) {
        int from = page.indexOf(ahead);
        int to = from < 0 ? -1 : page.indexOf(behind, from + ahead.length());
        Due.yes("README.md has '" + ahead.trim() + "' and '" + behind.trim() + "'", to >= 0);
        return to < 0 ? "" : page.substring(from + ahead.length(), to);
    }

    private static void printsWhatItSays(String example) throws Exception {
        List<String> said = new ArrayList<>();
        for (String line : example.split("\n")) {
            Matcher matcher = SHOWN.matcher(line);
            if (matcher.matches()) {
                said.add(matcher.group(1));
            }
        }
        List<String> printed = run(example);
        Due.yes("the example says something", said.size() > 0);
        Due.is("lines that the example prints", printed.size(), said.size());
        for (int i = 0; i < said.size() && i < printed.size(); i++) {
            Due.yes("line " + i + " is '" + printed.get(i) + "', said is '" + said.get(i) + "'",
                    printed.get(i).equals(said.get(i)));
        }
    }

    private static List<String> run(String example) throws Exception {
        Path folder = Files.createTempDirectory("readme");
        Path source = folder.resolve("Example.java");
        PrintStream before = System.out;
        ByteArrayOutputStream printed = new ByteArrayOutputStream();
        try (URLClassLoader loader = new URLClassLoader(new URL[] {folder.toUri().toURL()})) {
            Files.writeString(source, example);
            JavaCompiler compiler = ToolProvider.getSystemJavaCompiler();
            int code = compiler.run(null, null, null, "--release", "17", "-cp",
                    System.getProperty("java.class.path"), "-d", folder.toString(), source.toString());
            Due.is("javac of the example", code, 0);
            if (code == 0) {
                System.setOut(new PrintStream(printed, true));
                loader.loadClass("Example").getMethod("main", String[].class)
                        .invoke(null, (Object) new String[0]);
            }
        } finally {
            System.setOut(before);
            Files.deleteIfExists(source);
            Files.deleteIfExists(folder.resolve("Example.class"));
            Files.delete(folder);
        }
        return printed.toString().lines().toList();
    }

    private static void usesEveryCall(String example) {
        for (Method m : ScaleHouse.class.getDeclaredMethods()) {
            if (Modifier.isPublic(m.getModifiers())) {
                Due.yes("the example uses " + m.getName(), example.contains("house." + m.getName() + "("));
            }
        }
    }

    private static void tellsWhatIsRefused(String part) {
        for (Method m : ScaleHouse.class.getDeclaredMethods()) {
            if (Modifier.isPublic(m.getModifiers())) {
                String row = "(?s).*\n\\|[^\n]*\\|[^\n|]*`" + m.getName() + "`[^\n]*\\|.*";
                Due.yes("the table of what is refused, as to " + m.getName(),
                        part.matches(row) != NEVER_REFUSED.contains(m.getName()));
            }
        }
    }

    private static void namesEveryTest(String table) throws Exception {
        try (var files = Files.list(Path.of("src/test/java"))) {
            for (Path file : files.toList()) {
                String name = file.getFileName().toString().replace(".java", "");
                boolean isTest = name.endsWith("Test");
                Due.yes("the table of tests has " + name, !isTest || table.contains("\n| " + name + " |"));
            }
        }
    }
}
