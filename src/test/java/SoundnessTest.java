import java.lang.reflect.Field;
import java.util.List;

/**
 * Promise 46, where it is not true: no calls lead to an unsound study, so that the held state is changed from outside
 * here. This test alone knows names of what is private in the class.
 */
final class SoundnessTest {
    private interface Change {
        void on(Watermarkmill x) throws ReflectiveOperationException;
    }

    public static void main(String[] args) throws ReflectiveOperationException {
        unsound("sheets of a lot are lost", x -> set(first(x, "lots"), "taken", 5));
        unsound("a lot has a sheet more", x -> set(first(x, "lots"), "taken", 2));
        unsound("sheets of a ream are lost", x -> set(first(x, "reams"), "count", 0));
        unsound("sheets of a document are lost", x -> set(first(x, "documents"), "count", 0));
        unsound("a sheet was made later", x -> row(first(x, "documents"), "sheets")[0] = 150100);
        unsound("the last sheet was made later", x -> row(first(x, "documents"), "sheets")[1] = 150100);
        unsound("the last wire is healed", x -> row(first(x, "moulds"), "damageKinds")[1] = 0);
        unsound("the first wire is healed", x -> row(first(x, "moulds"), "damageKinds")[3] = 0);
        Check.end();
    }

    /** Four sheets of 1500: one in the lot, one in the ream and two in a document of that year. */
    private static Watermarkmill study() {
        Watermarkmill x = new Watermarkmill();
        x.mould(0, 0, 100, 100, 100, 100);
        x.damage(0, 7, false, 1500);
        x.damage(0, 7, true, 1500);
        x.damage(0, 0, false, 1500);
        x.damage(0, 0, true, 1500);
        x.make(0, false, 1500, 4);
        x.ream(0);
        x.put(0, 0, 3);
        x.document(1500, 1);
        x.use(0, 0, 2);
        return x;
    }

    private static void unsound(String what, Change change) throws ReflectiveOperationException {
        Watermarkmill x = study();
        Check.due("46 sound ahead of this: " + what, x.isSound(), true);
        change.on(x);
        Check.due("46 " + what, x.isSound(), false);
    }

    private static Field field(Object of, String name) throws ReflectiveOperationException {
        Field field = of.getClass().getDeclaredField(name);
        field.setAccessible(true);
        return field;
    }

    private static Object first(Watermarkmill x, String list) throws ReflectiveOperationException {
        return ((List<?>) field(x, list).get(x)).get(0);
    }

    private static int[] row(Object of, String name) throws ReflectiveOperationException {
        return (int[]) field(of, name).get(of);
    }

    private static void set(Object of, String name, int number) throws ReflectiveOperationException {
        field(of, name).setInt(of, number);
    }
}
