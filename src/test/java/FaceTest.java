import java.io.IOException;
import java.lang.reflect.Constructor;
import java.lang.reflect.Field;
import java.lang.reflect.Method;
import java.lang.reflect.Modifier;
import java.nio.file.Files;
import java.nio.file.Path;
import java.util.HashSet;
import java.util.List;
import java.util.Map;
import java.util.Set;
import java.util.TreeMap;
import java.util.TreeSet;
import java.util.regex.Matcher;
import java.util.regex.Pattern;

/** The public face is the one in the document's own block, and nothing else of the class can be seen. */
public final class FaceTest {
    private static final Class<?> FACE = DutyDesk.class;
    private static final Pattern METHOD = Pattern.compile("    public int (\\w+)\\((.*)\\);");
    private static final Pattern CONSTANT = Pattern.compile("    public static final int (\\w+) = (-\\d+);");
    /** What else stands in the block. */
    private static final Set<String> OTHERS = Set.of("public final class DutyDesk {", "    public DutyDesk();", "}");

    private final Due d = new Due();
    private final Set<String> methods = new TreeSet<>();
    private final Set<String> names = new HashSet<>();
    private final Map<String, Integer> constants = new TreeMap<>();

    public static void main(String[] args) throws IOException, IllegalAccessException {
        FaceTest test = new FaceTest();
        test.readDocument();
        test.theClass();
        test.theMethods();
        test.theConstants();
        test.theClassesInside();
        test.d.finish();
    }

    private void readDocument() throws IOException {
        List<String> lines = Files.readAllLines(Path.of("../shared/DOC.md"));
        int first = lines.indexOf("```java") + 1;
        int last = first + lines.subList(first, lines.size()).indexOf("```");
        for (String line : lines.subList(first, last)) {
            Matcher method = METHOD.matcher(line);
            Matcher constant = CONSTANT.matcher(line);
            if (method.matches()) {
                names.add(method.group(1));
                methods.add(method.group(1) + "(" + method.group(2).replaceAll("(int|boolean) \\w+", "$1").replace(", ", ",") + ")");
            } else if (constant.matches()) {
                constants.put(constant.group(1), Integer.valueOf(constant.group(2)));
            } else {
                d.holds("a line of the face is understood: " + line, OTHERS.contains(line));
            }
        }
        d.due("methods in the document", methods.size(), 27);
        d.due("constants in the document", constants.size(), 4);
    }

    private void theClass() {
        d.holds("the class is public and final", Modifier.isPublic(FACE.getModifiers()) && Modifier.isFinal(FACE.getModifiers()));
        Constructor<?>[] made = FACE.getDeclaredConstructors();
        d.holds("one public constructor without arguments",
            made.length == 1 && made[0].getParameterCount() == 0 && Modifier.isPublic(made[0].getModifiers()));
    }

    private void theMethods() {
        Set<String> found = new TreeSet<>();
        for (Method m : FACE.getDeclaredMethods()) {
            if (!Modifier.isPrivate(m.getModifiers())) {
                found.add(told(m));
                d.holds(m.getName() + " answers an int", m.getReturnType() == int.class);
                d.holds(m.getName() + " is public, of the object", Modifier.isPublic(m.getModifiers()) && !Modifier.isStatic(m.getModifiers()));
            }
        }
        d.holds("the methods are the document's: " + found, found.equals(methods));
    }

    private void theConstants() throws IllegalAccessException {
        Map<String, Integer> found = new TreeMap<>();
        for (Field f : FACE.getDeclaredFields()) {
            if (!Modifier.isPrivate(f.getModifiers())) {
                d.holds(f.getName() + " is a public constant", Modifier.isPublic(f.getModifiers()) && Modifier.isStatic(f.getModifiers()));
                found.put(f.getName(), f.getInt(null));
            }
        }
        d.holds("the constants are the document's: " + found, found.equals(constants));
    }

    private void theClassesInside() {
        noPublicName(FACE);
        for (Class<?> inside : FACE.getDeclaredClasses()) {
            d.holds(inside.getName() + " is static and not public",
                Modifier.isStatic(inside.getModifiers()) && !Modifier.isPublic(inside.getModifiers())
                    && !Modifier.isProtected(inside.getModifiers()));
            noPublicName(inside);
        }
    }

    private void noPublicName(Class<?> in) {
        for (Method m : in.getDeclaredMethods()) {
            d.holds(in.getName() + "." + m.getName() + " bears no public name",
                !Modifier.isPrivate(m.getModifiers()) || !names.contains(m.getName()));
        }
    }

    private static String told(Method m) {
        StringBuilder b = new StringBuilder(m.getName()).append('(');
        for (Class<?> type : m.getParameterTypes()) {
            b.append(b.charAt(b.length() - 1) == '(' ? "" : ",").append(type.getName());
        }
        return b.append(')').toString();
    }
}
