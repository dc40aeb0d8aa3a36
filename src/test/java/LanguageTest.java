import java.lang.reflect.Constructor;
import java.lang.reflect.Field;
import java.lang.reflect.Method;
import java.lang.reflect.Modifier;
import java.nio.file.Files;
import java.nio.file.Path;
import java.util.List;
import java.util.Set;
import java.util.TreeSet;
import java.util.regex.Matcher;
import java.util.regex.Pattern;

/** What of LANGUAGE.md can be read off the source and the compiled face. It reads the source below the working folder. */
public final class LanguageTest {
    private static final Path SOURCE = Path.of("src/main/java/SampleHouse.java");
    private static final Set<String> FACE = new TreeSet<>(List.of(
        "boolean group(int, int, int, int)", "int protocol(int)", "int early(int)", "int kind(int, int)",
        "boolean link(int, int, boolean)", "boolean colour(int, int)", "int query(int, int)", "int would(int, int)",
        "int run(int, int)", "int node(int, int)", "long exact(int, int)", "long colours(int, int)", "int odds(int)",
        "int soonest()", "int way(int, int)", "long chain(int, int)", "int entry(int, int, int)", "int poll(int, int, int)",
        "int yes(int, int, int)", "int polls(int, int)", "int of(int, int)", "int view(int, int, int) throws",
        "int set(int, int, int) throws", "int alike(int, int)", "boolean back()", "int count(int)"));
    private static final String[] RULED_OUT = {"->", "::", "\\bfinally\\b", "\\btry\\b", "\\bcatch\\b", "\\bsynchronized\\b",
        "\\bassert\\b", "Exact\\(", "\\bequals\\(", "hashCode", "toString", "\\bpackage\\b", "\\bprotected\\b", "\\bObject\\b",
        "\\bSystem\\.(?!arraycopy\\()", "\\bArrays\\.(?!fill\\(|copyOf\\(|copyOfRange\\()", "\\bFloat\\b", "\\bDouble\\b",
        "\\bInteger\\.(?!bitCount\\()", "\\bMath\\.(?!min\\(|max\\()", "\\bLong\\.", "\\binstanceof\\b",
        "\\bthrow (?!new NoSuchElementException\\(\\);)", "[^\\x00-\\x7F]"};
    private static Check check = new Check();

    private static String signature(Method m) {
        StringBuilder s = new StringBuilder(m.getReturnType() + " " + m.getName() + "(");
        for (Class<?> p : m.getParameterTypes()) {
            s.append(s.charAt(s.length() - 1) == '(' ? "" : ", ").append(p);
        }
        return s + ")" + (m.getExceptionTypes().length > 0 ? " throws" : "");
    }

    private static void face() {
        Set<String> seen = new TreeSet<>();
        for (Method m : SampleHouse.class.getDeclaredMethods()) {
            if (Modifier.isPublic(m.getModifiers())) {
                seen.add(signature(m));
            } else {
                check.due(m + " is private", true, Modifier.isPrivate(m.getModifiers()));
            }
        }
        check.due("the face " + seen, true, seen.equals(FACE));
        for (Field f : SampleHouse.class.getDeclaredFields()) {
            check.due(f + " is private or NONE", true, Modifier.isPrivate(f.getModifiers()) || f.getName().equals("NONE"));
        }
        check.due("constructors", 1, SampleHouse.class.getConstructors().length);
        check.due("final", true, Modifier.isFinal(SampleHouse.class.getModifiers()));
    }

    private static void classes() {
        Class<?>[] inside = SampleHouse.class.getDeclaredClasses();
        check.due("classes: " + inside.length, true, inside.length < 12);
        Set<String> names = new TreeSet<>();
        for (String s : FACE) {
            names.add(s.substring(s.indexOf(' ') + 1, s.indexOf('(')));
        }
        for (Class<?> c : inside) {
            check.due(c + " is static", true, Modifier.isStatic(c.getModifiers()) && !Modifier.isPublic(c.getModifiers()));
            ofClass(c);
            for (Method m : c.getDeclaredMethods()) {
                check.due(m + " has a name of its own", false, names.contains(m.getName()));
            }
        }
        ofClass(SampleHouse.class);
        for (Method m : SampleHouse.class.getDeclaredMethods()) {
            check.due(m + " has a name of its own", false, Modifier.isPrivate(m.getModifiers()) && names.contains(m.getName()));
        }
    }

    private static void ofClass(Class<?> c) {
        int fields = 0;
        for (Field f : c.getDeclaredFields()) {
            boolean fixed = Modifier.isStatic(f.getModifiers());
            fields += fixed ? 0 : 1;
            check.due(f + " is no static state", true, !fixed || Modifier.isFinal(f.getModifiers()) && f.getType().isPrimitive());
        }
        check.due(c + " has fields: " + fields, true, fields <= 20);
        for (Method m : c.getDeclaredMethods()) {
            check.due(m + " has parameters", true, m.getParameterCount() <= 7);
        }
        for (Constructor<?> k : c.getDeclaredConstructors()) {
            check.due(k + " has parameters", true, k.getParameterCount() <= 7);
        }
    }

    private static void words(String source) {
        String bare = source.replaceAll("(?s)/\\*.*?\\*/", "").replaceAll("//[^\n]*", "");
        for (String ruledOut : RULED_OUT) {
            Matcher m = Pattern.compile(ruledOut).matcher(bare);
            if (m.find()) {
                check.tell("ruled out: " + bare.substring(m.start(), Math.min(m.start() + 40, bare.length())));
            }
        }
        Matcher imports = Pattern.compile("import ([^;]*);").matcher(bare);
        while (imports.find()) {
            check.due("import " + imports.group(1), true,
                Set.of("java.util.Arrays", "java.util.NoSuchElementException").contains(imports.group(1)));
        }
    }

    /** A method begins with its head at its indentation and ends with a brace at the same. */
    private static void lengths(List<String> lines) {
        Pattern head = Pattern.compile("( ++)(?!for |if |while |switch |else |do )[\\w<>\\[\\] ]+\\(.*\\{");
        for (int i = 0; i < lines.size(); i++) {
            Matcher m = head.matcher(lines.get(i));
            if (m.matches() && !lines.get(i).contains("}")) {
                int end = lines.subList(i, lines.size()).indexOf(m.group(1) + "}");
                check.due("lines of " + lines.get(i).trim() + " " + end, true, end >= 0 && end <= 60);
            }
        }
    }

    public static void main(String[] args) throws java.io.IOException {
        face();
        classes();
        words(Files.readString(SOURCE));
        lengths(Files.readAllLines(SOURCE));
        check.end("LanguageTest");
    }
}
