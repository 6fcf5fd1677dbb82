import java.io.IOException;
import java.lang.reflect.InvocationTargetException;
import java.lang.reflect.Method;
import java.lang.reflect.Modifier;
import java.nio.file.Path;
import java.util.List;
import java.util.function.Supplier;

/**
 * Runs all tests of boundary cases, each on an object of its own. What a test names must stand in the document, and
 * every sentence of the document's terms and promises must be named by a test. It is run from the project's folder.
 */
public final class BoundariesTest {

    private static final Path DOCUMENT = Path.of("../shared/DOC.md");

    private final Document document = new Document(DOCUMENT);
    private int tests;
    private int wrong;

    private BoundariesTest() throws IOException {
    }

    public static void main(String[] args) throws IOException {
        BoundariesTest all = new BoundariesTest();
        List<Supplier<Boundaries>> kinds = List.of(SoundBoundaries::new, TextBoundaries::new, TongueBoundaries::new,
            MatchBoundaries::new, PairBoundaries::new, LandBoundaries::new, SheetBoundaries::new,
            FindingBoundaries::new);
        for (Supplier<Boundaries> kind : kinds) {
            all.runTests(kind);
        }
        all.checkDocument();
        System.out.println(all.tests + " tests of boundary cases, " + all.wrong + " faults");
        System.exit(all.wrong == 0 && all.tests > 0 ? 0 : 1);
    }

    private void fault(String what) {
        wrong++;
        System.out.println(what);
    }

    private void runTests(Supplier<Boundaries> kind) {
        for (Method method : kind.get().getClass().getDeclaredMethods()) {
            Boundary boundary = method.getAnnotation(Boundary.class);
            if (boundary != null) {
                runTest(kind.get(), method, boundary);
            } else if (Modifier.isStatic(method.getModifiers()) || method.getParameterCount() > 0) {
                continue;
            } else if (method.getReturnType() == void.class && !Modifier.isPrivate(method.getModifiers())) {
                fault(method + " is a test that names no sentence");
            }
        }
    }

    private void runTest(Boundaries test, Method method, Boundary boundary) {
        tests++;
        test.title = Document.headingOf(boundary.promise()) + ", '" + boundary.says() + "'";
        if (!document.name(boundary.promise(), boundary.says())) {
            fault(test.title + ": these words don't stand there");
        }
        try {
            method.invoke(test);
        } catch (InvocationTargetException thrown) {
            thrown.getCause().printStackTrace(System.out);
            fault(test.title + ": " + thrown.getCause());
        } catch (IllegalAccessException barred) {
            fault(test.title + ": " + barred);
        }
        if (test.asked == 0) {
            fault(test.title + ": nothing was asked");
        }
        wrong += test.wrong;
    }

    private void checkDocument() {
        for (String sentence : document.unnamed()) {
            fault("no test names '" + sentence + "'");
        }
    }
}
