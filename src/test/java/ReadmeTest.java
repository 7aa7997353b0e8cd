import java.io.IOException;
import java.nio.file.Files;
import java.nio.file.Path;
import java.util.List;

/** README.md: its example answers what it says there, and it names every call of the class. */
final class ReadmeTest {
    private static final List<String> EXAMPLE = List.of(
        "Watermarkmill study = new Watermarkmill();",
        "int mould = study.mould(0, 17, 200, 210, 205, 200);",
        "int older = study.document(1520, 1);",
        "int newer = study.document(1540, 1);",
        "study.claim(older, mould, 0);",
        "study.claim(newer, mould, 1);",
        "study.date(newer, 1500);",
        "int last = study.year(older, true);    // 1512: no sheet lies for more than 12 years",
        "int why = study.ground(older, true);   // 1: by the date of the newer one");

    public static void main(String[] args) throws IOException {
        String text = Files.readString(Path.of("README.md"));
        Check.due("the example is the one that is tried here", text.contains(String.join("\n", EXAMPLE)), true);
        example();
        for (java.lang.reflect.Method method : Watermarkmill.class.getDeclaredMethods()) {
            if (java.lang.reflect.Modifier.isPublic(method.getModifiers())) {
                Check.due("it names " + method.getName(), text.contains("`" + method.getName() + "`"), true);
            }
        }
        Check.due("it says how to run the tests", text.contains("\n.ci/run\n"), true);
        Check.end();
    }

    private static void example() {
        Watermarkmill study = new Watermarkmill();
        int mould = study.mould(0, 17, 200, 210, 205, 200);
        int older = study.document(1520, 1);
        int newer = study.document(1540, 1);
        study.claim(older, mould, 0);
        study.claim(newer, mould, 1);
        study.date(newer, 1500);
        Check.due("the last year", study.year(older, true), 1512);
        Check.due("its ground", study.ground(older, true), 1);
    }
}
