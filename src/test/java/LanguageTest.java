import java.io.IOException;
import java.lang.reflect.Constructor;
import java.lang.reflect.Field;
import java.lang.reflect.Member;
import java.lang.reflect.Method;
import java.lang.reflect.Modifier;
import java.nio.file.Files;
import java.nio.file.Path;
import java.util.ArrayList;
import java.util.List;
import java.util.Set;
import java.util.TreeSet;
import java.util.regex.Matcher;
import java.util.regex.Pattern;

/** The document's face, and those rules of LANGUAGE.md that can be seen from the source or the class. */
public final class LanguageTest {
    private static final Path SOURCE = Path.of("src/main/java/WhiteRoads.java");
    private static final Check CHECK = new Check();
    private static final Set<String> FACE = Set.of(
        "int feed(int, int, int, int, int)", "int end(int)", "int land()", "int fault(int)", "int run(int)", "int shift(int)",
        "int spread(int, int)", "int yard(int, int)", "int warm(int, int)", "int when(int, int)", "int deep(int, int, int)",
        "int least(int, int)", "int latest(int, int, int)", "int odds(int, int, int)", "int plan(int, int, int, int)",
        "int round(int, int, int)", "int lies(int)", "int open(int, int, int)", "int read(int, int, int, int, int)",
        "boolean untell(int)", "int later(int)", "int left(int)", "int tells(int, int, int)", "int image(int)", "int back(int)",
        "int about(int)");

    public static void main(String[] args) throws IOException {
        face();
        for (Class<?> c : classes()) {
            shape(c);
        }
        source(Files.readString(SOURCE));
        CHECK.finish("LanguageTest");
    }

    private static void holds(String rule, boolean holds) {
        CHECK.due(rule, holds, true);
    }

    private static List<Class<?>> classes() {
        List<Class<?>> list = new ArrayList<>();
        list.add(WhiteRoads.class);
        for (Class<?> c : WhiteRoads.class.getDeclaredClasses()) {
            list.add(c);
            holds(c + " is static and not public", Modifier.isStatic(c.getModifiers()) && !Modifier.isPublic(c.getModifiers()));
            holds(c + " has no class inside", c.getDeclaredClasses().length == 0);
        }
        holds("twelve classes at most", list.size() <= 12);
        return list;
    }

    private static boolean hidden(Member m) {
        return Modifier.isPrivate(m.getModifiers());
    }

    private static void face() {
        Class<?> c = WhiteRoads.class;
        holds("public and final", Modifier.isPublic(c.getModifiers()) && Modifier.isFinal(c.getModifiers()));
        Constructor<?>[] constructors = c.getDeclaredConstructors();
        holds("one public constructor", constructors.length == 1 && Modifier.isPublic(constructors[0].getModifiers())
            && constructors[0].getParameterCount() == 0);
        Set<String> methods = new TreeSet<>();
        Set<String> names = new TreeSet<>();
        for (Method m : c.getDeclaredMethods()) {
            if (!hidden(m)) {
                StringBuilder types = new StringBuilder();
                for (Class<?> type : m.getParameterTypes()) {
                    types.append(types.isEmpty() ? "" : ", ").append(type);
                }
                methods.add(m.getReturnType() + " " + m.getName() + "(" + types + ")");
                names.add(m.getName());
                holds(m + " is public and not static", m.getModifiers() == Modifier.PUBLIC);
            }
        }
        holds("the document's methods: " + methods, methods.equals(FACE));
        Set<String> fields = new TreeSet<>();
        for (Field f : c.getDeclaredFields()) {
            if (!hidden(f)) {
                fields.add(f.getType() + " " + f.getName());
                holds(f + " is a constant", f.getModifiers() == (Modifier.PUBLIC | Modifier.STATIC | Modifier.FINAL));
            }
        }
        holds("the document's constants: " + fields, fields.equals(Set.of("int NONE", "int GAP")));
        CHECK.due("NONE", WhiteRoads.NONE, -1);
        CHECK.due("GAP", WhiteRoads.GAP, -1000000);
        for (Class<?> inside : classes()) {
            for (Method m : inside.getDeclaredMethods()) {
                boolean own = inside == c && !hidden(m);
                holds(m + " bears no name of the face", own || !names.contains(m.getName()));
            }
        }
    }

    private static void shape(Class<?> c) {
        int fields = 0;
        for (Field f : c.getDeclaredFields()) {
            boolean isStatic = Modifier.isStatic(f.getModifiers());
            fields += isStatic ? 0 : 1;
            holds(f + " is final, if static", !isStatic || Modifier.isFinal(f.getModifiers()));
            boolean constant = Set.of("int", "long", "boolean", "char", "java.lang.String", "[I", "[J", "[C", "[B").contains(f.getType().getName());
            holds(f + " is of a constant's type, if static", !isStatic || constant);
        }
        holds(c + " has twenty fields at most", fields <= 20);
        for (Method m : c.getDeclaredMethods()) {
            holds(m + " takes seven parameters at most", m.getParameterCount() <= 7);
            holds(m + " is written in the source", !m.isSynthetic());
        }
    }

    private static void source(String text) {
        String code = text.replaceAll("(?s)/\\*.*?\\*/", "").replaceAll("//.*", "").replaceAll("\"[^\"]*\"", "\"\"")
            .replaceAll("'[^']'", "' '");
        for (String word : List.of("throw", "throws", "try", "catch", "finally", "synchronized", "assert", "package", "double", "float",
            "protected", "volatile", "native", "var", "goto", "Object", "Exception", "hashCode", "toString", "Thread")) {
            holds("no " + word, !Pattern.compile("\\b" + word + "\\b").matcher(code).find());
        }
        for (String sign : List.of("->", "::", "@", "\"\" +", "+ \"\"", "null")) {
            holds("no " + sign, !code.contains(sign));
        }
        Matcher imports = Pattern.compile("import\\s+([^;]*);").matcher(code);
        while (imports.find()) {
            holds("import " + imports.group(1), imports.group(1).equals("java.util.Arrays"));
        }
        Matcher library = Pattern.compile("\\b(Math|Integer|Long|Arrays|System|String|StringBuilder)\\.(\\w+)").matcher(code);
        Set<String> listed = Set.of("Math.max", "Math.min", "Math.abs", "Integer.bitCount", "Arrays.fill", "System.arraycopy");
        while (library.find()) {
            holds("library: " + library.group(), listed.contains(library.group()));
        }
        for (char c : text.toCharArray()) {
            if (c != '\n' && (c < 32 || c > 126)) {
                holds("a sign of the source: " + (int) c, false);
            }
        }
        methodLengths(text.split("\n"));
    }

    private static void methodLengths(String[] lines) {
        Pattern head = Pattern.compile("( +)[\\w\\[\\] ]+\\(.*\\) \\{");
        Pattern statement = Pattern.compile(" +(if|for|while|switch|else|return)\\b.*");
        for (int i = 0; i < lines.length; i++) {
            Matcher m = head.matcher(lines[i]);
            if (m.matches() && !statement.matcher(lines[i]).matches()) {
                int end = i;
                while (end < lines.length && !lines[end].equals(m.group(1) + "}")) {
                    end++;
                }
                holds("sixty lines at most: " + lines[i].trim(), end - i <= 60);
            }
        }
    }
}
