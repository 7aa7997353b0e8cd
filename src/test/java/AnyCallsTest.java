import java.lang.management.ManagementFactory;
import java.lang.reflect.InvocationTargetException;
import java.lang.reflect.Method;
import java.lang.reflect.Modifier;
import java.util.Arrays;
import java.util.Random;

/** LANGUAGE.md, rules 6, 7 and 12: whatever is called, only what the document names is thrown, and little is made. */
final class AnyCallsTest {
    private static final int OBJECTS = 40;
    private static final int CALLS = 6000;
    private static final long MOST_BYTES = 1_000_000;

    public static void main(String[] args) throws ReflectiveOperationException {
        for (int seed = 0; seed < OBJECTS; seed++) {
            callAnything(new Random(seed));
        }
        room();
        Check.end();
    }

    /** Far more than the 512 calls that are promised: the answers are free then, but nothing may break. */
    private static void callAnything(Random random) throws ReflectiveOperationException {
        Watermarkmill x = new Watermarkmill();
        Method[] methods = Watermarkmill.class.getDeclaredMethods();
        Arrays.sort(methods, (a, b) -> a.toString().compareTo(b.toString()));
        for (int call = 0; call < CALLS; call++) {
            Method m = methods[random.nextInt(methods.length)];
            if (Modifier.isPublic(m.getModifiers())) {
                Object[] arguments = new Object[m.getParameterCount()];
                for (int i = 0; i < arguments.length; i++) {
                    arguments[i] = m.getParameterTypes()[i] == boolean.class ? random.nextBoolean() : number(random);
                }
                callOne(x, m, arguments);
            }
        }
    }

    private static Object number(Random random) {
        switch (random.nextInt(8)) {
            case 0:
                return random.nextInt();
            case 1:
                return random.nextBoolean() ? Integer.MIN_VALUE : Integer.MAX_VALUE;
            case 2:
            case 3:
                return 1400 + random.nextInt(501);
            case 4:
                return 100 + random.nextInt(301);
            default:
                return random.nextInt(random.nextBoolean() ? 4 : 32) - random.nextInt(2);
        }
    }

    private static void callOne(Watermarkmill x, Method m, Object[] arguments) throws ReflectiveOperationException {
        String call = m.getName() + Arrays.toString(arguments);
        try {
            m.invoke(x, arguments);
            Check.due(call + " returned", true, true);
        } catch (InvocationTargetException e) {
            Class<?> thrown = e.getCause().getClass();
            Check.due(call + " threw " + thrown, Arrays.asList(m.getExceptionTypes()).contains(thrown), true);
            Check.due(call + " threw by itself", Check.isThrownByTheClass(e.getCause()), true);
        }
    }

    /** The dearest run: all is filled up, and the rest of the calls ask for the dearest answers. */
    private static void room() {
        room(false);
        long made = room(true);
        Check.due("the room of a run, " + made + " bytes, is small", made < MOST_BYTES, true);
    }

    private static long room(boolean isCounted) {
        com.sun.management.ThreadMXBean bean = (com.sun.management.ThreadMXBean) ManagementFactory.getThreadMXBean();
        long before = bean.getCurrentThreadAllocatedBytes();
        Watermarkmill x = new Watermarkmill();
        for (int i = 0; i < 12; i++) {
            x.mould(0, i, 200, 200, 200, 200);
            x.damage(i, 0, false, 1500);
        }
        for (int i = 0; i < 20; i++) {
            x.ream(1);
            x.make(0, false, 1500, 500);
            x.put(i, i, 500);
            x.document(1600, 3);
            x.use(i, i, 50);
            x.image(i, 0, 0, 255);
            x.claim(i, i % 12, i);
            x.claim(i, (i + 1) % 12, i / 2);
            x.date(i, 1500);
        }
        for (int i = 0; i < 40; i++) {
            x.sell(0, 1 + i % 2, 1500 + i);
            x.merge(0, i, 1, i);
            x.clashes();
            x.groups();
            x.run(0, 19);
            x.years();
            x.isSound();
        }
        long made = bean.getCurrentThreadAllocatedBytes() - before;
        return isCounted ? made : 0;
    }
}
