import java.io.IOException;
import java.lang.reflect.InvocationTargetException;
import java.lang.reflect.Method;
import java.util.Arrays;
import java.util.Comparator;

/**
 * Runs each test of the *Edges classes: one for each sentence of the document that names a boundary.
 * A test names its sentence with @Holds; the words must stand in the document, and no boundary that
 * the document names may be left without a test.
 */
public final class BoundaryTest {
    private static final Class<?>[] EDGES = {
        DeskEdges.class, PeopleEdges.class, TapeEdges.class, TextEdges.class, EditionEdges.class, NightEdges.class,
        PlanEdges.class, CallEdges.class, AskingEdges.class, ClaimEdges.class};

    private final Due d = new Due();
    private final Document document;

    private BoundaryTest(Document document) {
        this.document = document;
    }

    /** With arguments: only the tests of these names, and what is left out is not told. */
    public static void main(String[] args) throws IOException, IllegalAccessException {
        BoundaryTest all = new BoundaryTest(new Document());
        int many = 0;
        for (Class<?> edges : EDGES) {
            Method[] methods = edges.getDeclaredMethods();
            Arrays.sort(methods, Comparator.comparing(Method::getName));
            for (Method m : methods) {
                if (m.isAnnotationPresent(Holds.class) && (args.length == 0 || Arrays.asList(args).contains(m.getName()))) {
                    all.run(m);
                    many++;
                }
            }
        }
        all.d.name("");
        if (args.length == 0) {
            for (String left : all.document.leftOut()) {
                all.d.holds("a test quotes " + left, false);
            }
        }
        all.d.finish();
        System.out.println(many + " sentences hold");
    }

    private void run(Method m) throws IllegalAccessException {
        Holds of = m.getAnnotation(Holds.class);
        d.name(m.getName() + " [" + of.at() + ": '" + of.says() + "'] ");
        d.holds("these words stand in the document, once", document.quote(of.at(), of.says()));
        try {
            m.invoke(null, d);
        } catch (InvocationTargetException thrown) {
            d.holds("nothing is thrown: " + thrown.getCause(), false);
        }
    }
}
