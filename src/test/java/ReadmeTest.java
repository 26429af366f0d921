import java.lang.reflect.Method;
import java.nio.file.Files;
import java.nio.file.Path;
import java.util.Map;
import java.util.Set;
import java.util.TreeMap;
import java.util.TreeSet;
import java.util.regex.Matcher;
import java.util.regex.Pattern;

/** The examples of README.md, from the first on, on one object: each call answers what stands behind it. */
public final class ReadmeTest {
    private static final Dues d = new Dues("ReadmeTest");
    private static final Pattern EXAMPLE = Pattern.compile("x\\.(\\w+)\\(([^)]*)\\); +// (-?\\d+|[A-Z]+): .*");

    public static void main(String[] args) throws Exception {
        Map<String, Method> face = new TreeMap<>();
        for (Method m : BarleyLine.class.getMethods()) {
            if (m.getDeclaringClass() == BarleyLine.class) {
                face.put(m.getName(), m);
            }
        }
        Set<String> named = new TreeSet<>();
        BarleyLine x = null;
        boolean inside = false;
        for (String line : Files.readAllLines(Path.of("README.md"))) {
            if (line.startsWith("```")) {
                inside = line.equals("```java");
            } else if (inside && line.equals("BarleyLine x = new BarleyLine();")) {
                x = new BarleyLine();
            } else if (inside) {
                Matcher example = EXAMPLE.matcher(line);
                boolean known = x != null && example.matches() && face.containsKey(example.group(1));
                d.holds("an example: " + line, known);
                if (known) {
                    named.add(example.group(1));
                    d.due(line, answer(x, face.get(example.group(1)), example.group(2)), number(example.group(3)));
                }
            }
        }
        Set<String> lacking = new TreeSet<>(face.keySet());
        lacking.removeAll(named);
        d.holds("no example of " + lacking, lacking.isEmpty());
        d.end();
    }

    private static int answer(BarleyLine x, Method call, String given) throws Exception {
        String[] words = given.isEmpty() ? new String[0] : given.split(", ");
        Object[] values = new Object[words.length];
        for (int i = 0; i < words.length; i++) {
            values[i] = number(words[i]);
        }
        return (int) call.invoke(x, values);
    }

    /** A number, plain or by its digits of 16, or the name of a constant. */
    private static int number(String word) throws Exception {
        String name = word.replace("BarleyLine.", "");
        boolean isConstant = Character.isUpperCase(name.charAt(0));
        return isConstant ? BarleyLine.class.getField(name).getInt(null) : Integer.decode(name);
    }
}
