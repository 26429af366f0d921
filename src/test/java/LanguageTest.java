import java.lang.reflect.Constructor;
import java.lang.reflect.Field;
import java.lang.reflect.Method;
import java.lang.reflect.Modifier;
import java.nio.file.Files;
import java.nio.file.Path;
import java.util.ArrayList;
import java.util.List;
import java.util.Set;
import java.util.TreeSet;
import java.util.regex.Matcher;
import java.util.regex.Pattern;

/** The face, and those rules of LANGUAGE.md that can be seen from the source or the compiled class. */
public final class LanguageTest {
    private static final Dues d = new Dues("LanguageTest");
    private static final String FACE = "mule4 told2 as2 turns2 set3 rule2 yard2 sweep1 rain0 deal1 seed1 minutes1 way1"
            + " behind2 empty0 thickest2 patch2 pan2 whose3 fee0 fine1 feed3 trim1 text0 textTold2 why1 sheet3 mark3 pour1"
            + " reads1 copy5 lay3 ask2 item2 rest2 tell1 check1 keep0 back0 count1";

    private static final Set<String> LIBRARY = Set.of("java.util.Arrays", "java.util.ArrayList", "java.util.List",
            "java.util.Iterator");

    public static void main(String[] args) throws Exception {
        face();
        members(BarleyLine.class);
        Class<?>[] inside = BarleyLine.class.getDeclaredClasses();
        d.holds("at most twelve classes", inside.length + 1 <= 12);
        for (Class<?> c : inside) {
            d.holds(c + " is static", Modifier.isStatic(c.getModifiers()));
            d.holds(c + " is private or package-visible", (c.getModifiers() & (Modifier.PUBLIC | Modifier.PROTECTED)) == 0);
            members(c);
        }
        source(Files.readString(Path.of("src/main/java/BarleyLine.java")));
        d.end();
    }

    private static void face() {
        int wanted = Modifier.PUBLIC | Modifier.FINAL;
        d.due("public and final", BarleyLine.class.getModifiers() & wanted, wanted);
        Set<String> face = new TreeSet<>(List.of(FACE.split(" ")));
        Set<String> found = new TreeSet<>();
        for (Method m : BarleyLine.class.getDeclaredMethods()) {
            if (!Modifier.isPrivate(m.getModifiers())) {
                found.add(m.getName() + m.getParameterCount());
                d.holds(m + " answers an int", m.getReturnType() == int.class);
                d.holds(m + " is of the object", !Modifier.isStatic(m.getModifiers()));
                for (Class<?> type : m.getParameterTypes()) {
                    d.holds(m + " takes ints", type == int.class);
                }
            }
        }
        d.holds("the face is " + found, found.equals(face));
        Set<String> constants = new TreeSet<>();
        for (Field f : BarleyLine.class.getDeclaredFields()) {
            if (!Modifier.isPrivate(f.getModifiers())) {
                constants.add(f.getName());
            }
        }
        d.holds("constants", constants.equals(Set.of("BAD", "NO", "FULL", "NONE", "NOTHING", "KIND", "INDEX", "SIZE")));
        Constructor<?>[] made = BarleyLine.class.getDeclaredConstructors();
        d.due("one constructor", made.length, 1);
        d.holds("it is public", Modifier.isPublic(made[0].getModifiers()));
        d.due("BAD", BarleyLine.BAD, -1000000001);
        d.due("NO", BarleyLine.NO, -1000000002);
        d.due("FULL", BarleyLine.FULL, -1000000003);
        d.due("NONE", BarleyLine.NONE, -1000000005);
        d.due("NOTHING", BarleyLine.NOTHING, -1000000011);
        d.due("KIND", BarleyLine.KIND, -1000000012);
        d.due("INDEX", BarleyLine.INDEX, -1000000013);
        d.due("SIZE", BarleyLine.SIZE, -1000000014);
    }

    private static void members(Class<?> c) {
        int ofObject = 0;
        for (Field f : c.getDeclaredFields()) {
            if (Modifier.isStatic(f.getModifiers())) {
                d.holds(f + " is final", Modifier.isFinal(f.getModifiers()));
            } else {
                ofObject++;
            }
        }
        d.holds(c + " has at most twenty fields", ofObject <= 20);
        for (Method m : c.getDeclaredMethods()) {
            d.holds(m + " takes at most seven", m.getParameterCount() <= 7);
            boolean named = (" " + FACE).matches(".* " + m.getName() + "[0-9].*");
            d.holds(m + " bears no name of the face", !Modifier.isPrivate(m.getModifiers()) || !named);
        }
    }

    private static void source(String source) {
        for (int i = 0; i < source.length(); i++) {
            if (source.charAt(i) > 126) {
                d.holds("a sign beyond 126 at " + i, false);
            }
        }
        String bare = source.replaceAll("(?s)/\\*.*?\\*/", "").replaceAll("//[^\n]*", "").replaceAll("\"[^\"\n]*\"", "\"\"");
        for (String word : List.of("throw", "throws", "try", "catch", "synchronized", "assert", "protected", "native",
                "Object", "System.out", "hashCode", "package")) {
            d.holds("no " + word, !Pattern.compile("\\b" + Pattern.quote(word) + "\\b").matcher(bare).find());
        }
        String withoutCases = bare.replaceAll("(case [^:;{}]*?|default )->", "");
        d.holds("no lambda, no method reference", !withoutCases.contains("->") && !bare.contains("::"));
        d.holds("nothing that ends in Exact", !bare.contains("Exact"));
        d.holds("no static block", !Pattern.compile("static\\s*\\{").matcher(bare).find());
        Matcher imports = Pattern.compile("import ([^;]*);").matcher(bare);
        while (imports.find()) {
            d.holds("import " + imports.group(1), LIBRARY.contains(imports.group(1)));
        }
        lengths(bare.split("\n"));
        heads(source);
    }

    /** Ahead of which calls the interface says what, as the document has it. */
    private static void heads(String source) {
        Matcher found = Pattern.compile("// (---- .*)|public int (\\w+)\\(").matcher(source);
        StringBuilder order = new StringBuilder();
        while (found.find()) {
            order.append(found.group(1) != null ? "\n" + found.group(1) + ":" : " " + found.group(2));
        }
        String[] said = {"---- mules, yards: mule told as turns set rule yard sweep rain deal seed", "---- minutes: minutes way",
            "---- what will be: behind empty thickest patch pan whose fee fine", "---- texts: feed trim text textTold why",
            "---- sheets, slots: sheet mark pour reads copy lay ask item rest", "---- rows, images: tell check keep back count"};
        for (String head : said) {
            d.holds(head, ("\n" + order + "\n").contains("\n" + head + "\n"));
        }
    }

    private static void lengths(String[] lines) {
        List<Integer> open = new ArrayList<>();
        for (int i = 0; i < lines.length; i++) {
            for (char c : lines[i].toCharArray()) {
                if (c == '{') {
                    open.add(i);
                } else if (c == '}') {
                    int from = open.remove(open.size() - 1);
                    boolean isMethod = lines[from].contains("(") && !lines[from].contains("class ");
                    d.holds("line " + (from + 1) + ": short", !isMethod || i - from <= 60);
                }
            }
        }
    }
}
