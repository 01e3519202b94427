import java.lang.reflect.Method;
import java.lang.reflect.Modifier;
import java.net.URL;
import java.net.URLClassLoader;
import java.nio.file.DirectoryStream;
import java.nio.file.Files;
import java.nio.file.Path;
import java.util.ArrayList;
import java.util.List;
import java.util.regex.Matcher;
import java.util.regex.Pattern;
import javax.tools.ToolProvider;

/** README.md holds what it says: its examples compile and answer so, and it names every call and every test. */
public final class ReadmeTest {
    private static final Pattern BLOCK = Pattern.compile("(?ms)^```java\n(.*?)^```$");
    private static final Pattern ANSWERED = Pattern.compile("(w\\.\\w+\\(.*\\)); +// (-?\\d+|NONE|BAD|NO|FULL): .+");
    private static int answers = 0, wrong = 0;

    private static void fails(String what) {
        wrong++;
        System.out.println(what);
    }

    /** The compiled examples call this. */
    public static void due(String call, long got, long want) {
        answers++;
        if (got != want) {
            fails("README.md: " + call + " answered " + got + ", it says " + want);
        }
    }

    public static void main(String[] args) throws Exception {
        String readme = Files.readString(Path.of("README.md"));
        namesAll(readme);
        List<String> examples = new ArrayList<>();
        Matcher m = BLOCK.matcher(readme);
        while (m.find()) {
            examples.add(m.group(1));
        }
        Path folder = Files.createTempDirectory("readme");
        try {
            for (int k = 0; k < examples.size(); k++) {
                runs(folder, "Example" + k, examples.get(k));
            }
        } finally {
            deletes(folder);
        }
        System.out.println(examples.size() + " examples, " + answers + " answers looked at, " + wrong + " not as due");
        if (wrong != 0 || answers == 0) {
            System.exit(1);
        }
    }

    private static void namesAll(String readme) throws Exception {
        for (Method m : SpeedWarden.class.getDeclaredMethods()) {
            if (Modifier.isPublic(m.getModifiers()) && !readme.contains("`" + m.getName() + "(")) {
                fails("README.md does not name the call " + m.getName());
            }
        }
        try (DirectoryStream<Path> tests = Files.newDirectoryStream(Path.of("src/test/java"), "*.java")) {
            for (Path test : tests) {
                String name = test.getFileName().toString().replace(".java", "");
                if (!readme.contains("`" + name + "`")) {
                    fails("README.md does not name the test " + name);
                }
            }
        }
    }

    private static void runs(Path folder, String name, String example) throws Exception {
        StringBuilder body = new StringBuilder();
        for (String line : example.split("\n")) {
            Matcher m = ANSWERED.matcher(line);
            if (m.matches()) {
                String want = m.group(2).matches("[A-Z]+") ? "SpeedWarden." + m.group(2) : m.group(2);
                body.append("ReadmeTest.due(\"").append(m.group(1)).append("\", ");
                body.append(m.group(1)).append(", ").append(want).append(");\n");
            } else {
                if (line.startsWith("w.")) {
                    fails("README.md: no answer stands behind " + line);
                }
                body.append(line).append('\n');
            }
        }
        Path source = folder.resolve(name + ".java");
        Files.writeString(source, "public final class " + name + " {\npublic static void main(String[] args) {\n"
            + body + "}\n}\n");
        String classes = System.getProperty("java.class.path");
        if (ToolProvider.getSystemJavaCompiler().run(null, null, null, "-cp", classes, source.toString()) != 0) {
            fails("README.md: " + name + " does not compile");
            return;
        }
        try (URLClassLoader loader = new URLClassLoader(new URL[] {folder.toUri().toURL()})) {
            loader.loadClass(name).getMethod("main", String[].class).invoke(null, (Object) new String[0]);
        }
    }

    private static void deletes(Path folder) throws Exception {
        try (DirectoryStream<Path> files = Files.newDirectoryStream(folder)) {
            for (Path file : files) {
                Files.delete(file);
            }
        }
        Files.delete(folder);
    }
}
