import java.io.IOException;
import java.lang.reflect.Method;
import java.nio.file.Files;
import java.nio.file.Path;
import java.util.regex.Matcher;
import java.util.regex.Pattern;

/** The first example of README.md: each of its calls answers what stands behind it there. */
public final class ReadmeTest {
    private static final Pattern PUT = Pattern.compile("put\\(court, \"(.*)\"\\);");
    private static final Pattern CALL = Pattern.compile("court\\.(\\w+)\\((.*?)\\); +// (-?\\w+)\\b.*");

    public static void main(String[] args) throws IOException, ReflectiveOperationException {
        String readme = Files.readString(Path.of("README.md"));
        int from = readme.indexOf("```java\n") + "```java\n".length();
        String[] lines = readme.substring(from, readme.indexOf("\n```\n", from)).split("\n");
        Court.due("its first line makes a court", true, lines[0].equals("BlameCourt court = new BlameCourt();"));
        BlameCourt court = new BlameCourt();
        for (int i = 1; i < lines.length; i++) {
            line(court, lines[i]);
        }
        for (Method m : BlameCourt.class.getDeclaredMethods()) {
            boolean listed = (m.getModifiers() & 1) == 0 || readme.contains("| `" + m.getName() + "(");
            Court.due(m.getName() + " stands in README.md", true, listed);
        }
        Court.close();
    }

    private static void line(BlameCourt court, String line) throws ReflectiveOperationException {
        Matcher put = PUT.matcher(line);
        Matcher call = CALL.matcher(line);
        if (put.matches()) {
            Court.put(court, put.group(1));
        } else if (call.matches()) {
            Court.due(line, Integer.parseInt(asNumber(call.group(3))), answer(court, call.group(1), call.group(2)));
        } else {
            Court.due("a line that can be followed: " + line, true, false);
        }
    }

    private static String asNumber(String word) {
        return word.equals("true") ? "1" : word.equals("false") ? "0" : word;
    }

    private static int answer(BlameCourt court, String name, String given) throws ReflectiveOperationException {
        String[] words = given.isEmpty() ? new String[0] : given.split(", ");
        for (Method m : BlameCourt.class.getDeclaredMethods()) {
            if (!m.getName().equals(name) || m.getParameterCount() != words.length) {
                continue;
            }
            Object[] values = new Object[words.length];
            for (int i = 0; i < words.length; i++) {
                boolean truth = m.getParameterTypes()[i] == boolean.class;
                values[i] = truth ? (Object) words[i].equals("true") : (Object) Integer.parseInt(words[i]);
            }
            return Integer.parseInt(asNumber(m.invoke(court, values).toString()));
        }
        Court.due("a call of the face: " + name, true, false);
        return BlameCourt.NONE;
    }
}
