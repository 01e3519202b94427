import java.lang.reflect.Constructor;
import java.lang.reflect.Field;
import java.lang.reflect.Method;
import java.lang.reflect.Modifier;
import java.nio.charset.StandardCharsets;
import java.nio.file.Files;
import java.nio.file.Path;
import java.util.ArrayList;
import java.util.HashSet;
import java.util.List;
import java.util.Set;
import java.util.TreeSet;
import java.util.regex.Matcher;
import java.util.regex.Pattern;

/** What can be seen from outside of the rules of ../shared/LANGUAGE.md and of the document's face. */
public final class LanguageTest {
    private static final Path PROGRAM = Path.of("src/main/java/SpeedWarden.java");
    private static final String[] FACE = {
        "int lengthens(int)", "int lays(int,int,int,int)", "int beacon(int,int)", "int sets(int,int)",
        "int cell(int,int)", "int lawful(int)", "int permitted(int)", "int bound(int)", "int stands(int,int)",
        "int speed(int,int)", "int many(int)", "int places(int,int)", "int steps(int)", "int drives(int)",
        "int frees()", "int train(int)", "int type(int)", "int clear()", "int does()", "int why(int)", "int back()",
        "int told(int)", "long digest()"};
    private static int wrong = 0;

    private static void holds(boolean good, String rule) {
        if (!good) {
            wrong++;
            System.out.println("broken: " + rule);
        }
    }

    public static void main(String[] args) throws Exception {
        face();
        classesInside();
        source(Files.readString(PROGRAM, StandardCharsets.ISO_8859_1));
        System.out.println(wrong == 0 ? "the rules hold" : wrong + " rules are broken");
        if (wrong != 0) {
            System.exit(1);
        }
    }

    private static void face() {
        holds(Modifier.isPublic(SpeedWarden.class.getModifiers()), "1: the class is public");
        holds(Modifier.isFinal(SpeedWarden.class.getModifiers()), "1: the class is final");
        Set<String> open = new TreeSet<>();
        for (Method m : SpeedWarden.class.getDeclaredMethods()) {
            if (!Modifier.isPrivate(m.getModifiers())) {
                open.add(m.toString().replace("public ", "").replace("SpeedWarden.", ""));
            }
        }
        holds(open.equals(new TreeSet<>(List.of(FACE))), "1: the methods are those of the document: " + open);
        Constructor<?>[] made = SpeedWarden.class.getDeclaredConstructors();
        holds(made.length == 1 && Modifier.isPublic(made[0].getModifiers()) && made[0].getParameterCount() == 0,
            "1: one public constructor without parameters");
        Set<String> fields = new TreeSet<>();
        for (Field f : SpeedWarden.class.getDeclaredFields()) {
            if (!Modifier.isPrivate(f.getModifiers())) {
                fields.add(f.toString());
            }
        }
        Set<String> due = new TreeSet<>();
        for (String name : List.of("NONE", "BAD", "NO", "FULL")) {
            due.add("public static final int SpeedWarden." + name);
        }
        holds(fields.equals(due), "1: the constants are those of the document: " + fields);
    }

    private static void classesInside() {
        Set<String> names = new HashSet<>();
        for (String method : FACE) {
            names.add(method.replaceAll("^[a-z]+ |\\(.*", ""));
        }
        List<Class<?>> all = new ArrayList<>(List.of(SpeedWarden.class.getDeclaredClasses()));
        holds(all.size() <= 12, "11: at most twelve classes");
        for (Class<?> inside : all) {
            holds(Modifier.isStatic(inside.getModifiers()), "2: static: " + inside);
            holds(!Modifier.isPublic(inside.getModifiers()) && !Modifier.isProtected(inside.getModifiers()),
                "1: private or package-visible: " + inside);
            holds(inside.getDeclaredClasses().length == 0, "2: nothing deeper: " + inside);
        }
        all.add(SpeedWarden.class);
        for (Class<?> c : all) {
            int held = 0;
            for (Field f : c.getDeclaredFields()) {
                boolean isStatic = Modifier.isStatic(f.getModifiers());
                holds(!isStatic || Modifier.isFinal(f.getModifiers()), "5: static fields are final: " + f);
                held += isStatic ? 0 : 1;
            }
            holds(held <= 20, "11: some twenty fields: " + c);
            for (Method m : c.getDeclaredMethods()) {
                holds(m.getParameterCount() <= 7, "11: seven parameters: " + m);
                holds(!Modifier.isPrivate(m.getModifiers()) || !names.contains(m.getName()),
                    "1: no private method bears a public name: " + m);
            }
        }
    }

    private static void source(String text) {
        for (int k = 0; k < text.length(); k++) {
            char c = text.charAt(k);
            holds(c < 128 && (c >= 32 || c == '\n'), "4: plain signs alone, at " + k);
        }
        String code = text.replaceAll("(?s)/\\*.*?\\*/", "").replaceAll("//[^\n]*", "")
            .replaceAll("\"[^\"\n]*\"", "\"\"").replaceAll("'(\\\\.|[^'\n])'", "' '");
        String[] words = {"throw", "throws", "try", "catch", "finally", "synchronized", "assert", "import", "package",
            "native", "volatile", "transient", "strictfp", "var", "yield", "Object", "Exception", "Thread",
            "System\\.(?!arraycopy\\b)", "hashCode", "toString", "\\w+Exact"};
        for (String word : words) {
            Matcher m = Pattern.compile("\\b" + word + (word.endsWith(")") ? "" : "\\b")).matcher(code);
            holds(!m.find(), "4, 6, 13: not in the program: " + word);
        }
        holds(!code.contains("->") && !code.contains("::"), "2: no lambda, no method reference");
        holds(!code.contains("@"), "no annotation is needed");
        methodsAreShort(code);
    }

    private static void methodsAreShort(String code) {
        String[] lines = code.split("\n");
        Pattern head = Pattern.compile("^( {4}| {8})(public|private)[^=;]*\\(.*\\) \\{$");
        for (int k = 0; k < lines.length; k++) {
            Matcher m = head.matcher(lines[k]);
            if (!m.matches()) {
                continue;
            }
            int end = k;
            while (end < lines.length && !lines[end].equals(m.group(1) + "}")) {
                end++;
            }
            holds(end - k < 60, "11: methods stay short: " + lines[k].strip());
        }
    }
}
