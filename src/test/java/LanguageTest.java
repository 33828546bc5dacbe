import java.io.IOException;
import java.lang.reflect.Constructor;
import java.lang.reflect.Field;
import java.lang.reflect.Method;
import java.lang.reflect.Modifier;
import java.nio.file.Files;
import java.nio.file.Path;
import java.util.Arrays;
import java.util.Set;
import java.util.TreeSet;
import java.util.regex.Matcher;
import java.util.regex.Pattern;

/** Those rules of LANGUAGE.md that can be seen from the source and the face alone. */
public final class LanguageTest {
    private static final String[] FACE = {"about", "asked", "end", "fault", "feed", "guard", "judge", "out", "part", "read", "run",
        "runUntold", "tell", "told"};

    public static void main(String[] args) throws IOException {
        face();
        String source = Files.readString(Path.of("src/main/java/BlameCourt.java"));
        String code = source.replaceAll("(?s)/\\*.*?\\*/", " ").replaceAll("//[^\n]*", " ").replaceAll("'(\\\\.|[^'])'", "0");
        for (String word : new String[] {"throw", "throws", "try", "catch", "finally", "synchronized", "assert", "hashCode", "Exact",
            "System", "Integer", "Thread", "Random", "Object", "HashMap", "Iterator", "lambda", "package", "native", "volatile", "transient"}) {
            Court.due("the word " + word, false, Pattern.compile("\\b" + word + "\\b").matcher(code).find());
        }
        for (String sign : new String[] {"->", "::", "@", "\"", "[][]"}) {
            Court.due("the sign " + sign, false, code.contains(sign));
        }
        Court.due("imports", 1, count(code, "\\bimport\\b"));
        Court.due("the import", true, code.contains("import java.util.Arrays;"));
        Court.due("classes are at most twelve", true, count(code, "\\bclass\\b") <= 12);
        Court.due("static fields are final", 0, count(code, "\\bstatic (?!final|int \\w+\\(|long \\w+\\(|boolean \\w+\\()"));
        for (String name : FACE) {
            Court.due("methods called " + name, 1, count(code, "\\b(void|int|long|boolean) " + name + "\\("));
        }
        longMethods(code);
        Court.close();
    }

    private static int count(String code, String pattern) {
        Matcher m = Pattern.compile(pattern).matcher(code);
        int n = 0;
        while (m.find()) {
            n++;
        }
        return n;
    }

    /** No method has more than sixty lines, or more than seven parameters. */
    private static void longMethods(String code) {
        String[] lines = code.split("\n");
        for (int i = 0; i < lines.length; i++) {
            Matcher head = Pattern.compile("^( +)[\\w\\[\\] ]+\\(([^()]*)\\) \\{$").matcher(lines[i]);
            if (!head.matches()) {
                continue;
            }
            int end = i;
            while (!lines[end].equals(head.group(1) + "}")) {
                end++;
            }
            Court.due("short enough: " + lines[i].trim(), true, end - i + 1 <= 60);
            Court.due("few enough: " + lines[i].trim(), true, head.group(2).split(",").length <= 7);
        }
    }

    private static void face() {
        Set<String> methods = new TreeSet<>();
        for (Method m : BlameCourt.class.getDeclaredMethods()) {
            if (!Modifier.isPrivate(m.getModifiers())) {
                methods.add(m.getName());
                Court.due(m.getName() + " is public", true, Modifier.isPublic(m.getModifiers()));
            }
        }
        Court.due("the methods " + methods, true, methods.equals(new TreeSet<>(Arrays.asList(FACE))));
        for (Field f : BlameCourt.class.getDeclaredFields()) {
            boolean isPrivate = Modifier.isPrivate(f.getModifiers());
            Court.due(f.getName() + " is private, or NONE", true, isPrivate != f.getName().equals("NONE"));
        }
        Constructor<?>[] made = BlameCourt.class.getDeclaredConstructors();
        Court.due("constructors", 1, made.length);
        Court.due("of parameters", 0, made[0].getParameterCount());
        Court.due("public final", Modifier.PUBLIC | Modifier.FINAL, BlameCourt.class.getModifiers());
        for (Class<?> c : BlameCourt.class.getDeclaredClasses()) {
            Court.due(c.getName() + " is static", true, Modifier.isStatic(c.getModifiers()));
            int fields = 0;
            for (Field f : c.getDeclaredFields()) {
                fields += Modifier.isStatic(f.getModifiers()) ? 0 : 1;
                Court.due(f.getName() + ", if static, is final", true,
                    !Modifier.isStatic(f.getModifiers()) || Modifier.isFinal(f.getModifiers()));
            }
            Court.due(c.getName() + " has few fields: " + fields, true, fields <= 20);
        }
    }
}
