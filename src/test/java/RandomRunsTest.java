import java.lang.reflect.InvocationTargetException;
import java.lang.reflect.Method;
import java.util.ArrayList;
import java.util.Arrays;
import java.util.Comparator;
import java.util.List;
import java.util.Map;
import java.util.Random;
import java.util.TreeMap;

/** All promises at once: random runs of 512 calls, each answered as PlainStudy answers it. */
final class RandomRunsTest {
    private static final int RUNS = 1500;
    private static final int CALLS = 512;
    private static final int[] EDGES = {-1, 0, 1, 4, 5, 7, 8, 20, 21, 50, 51, 99, 100, 101, 255, 256, 400, 401, 500, 501,
        1399, 1400, 1900, 1901, Integer.MAX_VALUE, Integer.MIN_VALUE};

    private static final List<String> FIRST = List.of("mould", "mould", "document", "make", "ream", "put", "put", "use");
    private static final List<List<String>> THEMES = List.of(
        List.of(),
        List.of("copy", "twin", "damage", "sell", "owner", "state", "wire", "make", "put", "tariff", "use"),
        List.of("damage", "make", "put", "use", "cancel", "cancels", "leafOf", "run", "tariff", "meanAge"),
        List.of("damage", "make", "put", "use", "image", "wash", "compare", "evidence", "groups", "setTolerance"),
        List.of("merge", "merge", "unmerge", "entry", "clashes"),
        List.of("claim", "claim", "claim", "unclaim", "date", "date", "setAge", "fits", "year", "ground", "culprit",
            "forged", "years", "document"));

    private final Random random;
    private final PlainStudy plain = new PlainStudy();
    private final int[] sizes = new int[5]; // moulds, lots, reams, documents, images
    private final int band;
    private final List<String> theme;
    private int call = 0;

    private RandomRunsTest(int seed) {
        random = new Random(seed);
        band = random.nextInt(4) == 0 ? 400 : 40;
        theme = THEMES.get(seed % THEMES.size());
    }

    public static void main(String[] args) throws ReflectiveOperationException {
        Map<String, Integer> outcomes = new TreeMap<>();
        for (int seed = 0; seed < RUNS; seed++) {
            new RandomRunsTest(seed).run(seed, outcomes);
        }
        if (args.length > 0) {
            outcomes.forEach((what, count) -> System.out.println(what + " " + count));
        }
        Check.end();
    }

    private static List<Method> methods() {
        List<Method> methods = new ArrayList<>();
        for (Method m : Watermarkmill.class.getDeclaredMethods()) {
            if (java.lang.reflect.Modifier.isPublic(m.getModifiers())) {
                methods.add(m);
            }
        }
        methods.sort(Comparator.comparing(Method::getName));
        return methods;
    }

    private void run(int seed, Map<String, Integer> outcomes) throws ReflectiveOperationException {
        List<Method> methods = methods();
        Watermarkmill x = new Watermarkmill();
        for (; call < CALLS; call++) {
            Method m = methods.get(random.nextInt(methods.size()));
            if (call < 60 && random.nextInt(3) != 0) {
                m = find(methods, FIRST.get(random.nextInt(FIRST.size())));
            } else if (!theme.isEmpty() && random.nextInt(8) != 0) {
                m = find(methods, theme.get(random.nextInt(theme.size())));
            }
            Object[] arguments = arguments(m);
            Object want = outcome(PlainStudy.class.getMethod(m.getName(), m.getParameterTypes()), plain, arguments);
            Object got = outcome(m, x, arguments);
            grow(m.getName(), got);
            outcomes.merge(m.getName() + " " + (got instanceof Integer || got instanceof Long || got instanceof Float
                    || got instanceof Double ? "number" : got), 1, Integer::sum);
            Check.due("seed " + seed + " call " + call + " " + m.getName() + Arrays.toString(arguments), got, want);
            if (!want.equals(got)) {
                return;
            }
        }
    }

    private static Method find(List<Method> methods, String name) {
        return methods.stream().filter(m -> m.getName().equals(name)).findFirst().orElseThrow();
    }

    private void grow(String name, Object got) {
        int kind = List.of("mould", "make", "ream", "document", "image").indexOf(name.equals("copy") ? "mould" : name);
        if (kind >= 0 && got instanceof Integer) {
            sizes[kind]++;
        }
    }

    private static Object outcome(Method m, Object on, Object[] arguments) throws ReflectiveOperationException {
        try {
            return m.invoke(on, arguments);
        } catch (InvocationTargetException e) {
            return e.getCause().getClass().getName();
        }
    }

    private int up(int end) {
        return end <= 0 ? 0 : random.nextInt(end);
    }

    /** Years go on through a run, now and then back: else hardly anything could be told of a mould. */
    private int year() {
        int now = 1450 + band * call / CALLS;
        return random.nextInt(6) == 0 ? now - random.nextInt(10) : now + random.nextInt(3);
    }

    private int sheet(int document) {
        return up(plain.sheetsOf(document) + (random.nextInt(9) == 0 ? 1 : 0));
    }

    private int leaf(int document) {
        return 1 + up(plain.leavesOf(document) + (random.nextInt(9) == 0 ? 1 : 0));
    }

    private int one(int kind) {
        return up(sizes[kind]);
    }

    private Object[] arguments(Method m) {
        Object[] a = usual(m.getName());
        if (random.nextInt(12) == 0 && a.length > 0) {
            int i = random.nextInt(a.length);
            if (a[i] instanceof Integer) {
                a[i] = random.nextInt(3) == 0 ? random.nextInt() : EDGES[random.nextInt(EDGES.length)];
            }
        }
        return a;
    }

    private Object[] usual(String name) {
        boolean flag = random.nextBoolean();
        int document = one(3);
        switch (name) {
            case "mould":
                return new Object[] {up(5), up(2), 200 + up(4), 200 + up(4), 300, 300};
            case "copy":
                return new Object[] {one(0), up(5)};
            case "twin":
                return new Object[] {one(0), one(0)};
            case "damage":
                return new Object[] {one(0), up(8), flag, year()};
            case "retire":
                return new Object[] {one(0), year() + random.nextInt(2) * random.nextInt(band)};
            case "sell":
                return new Object[] {one(0), up(5), year()};
            case "owner":
            case "state":
                return new Object[] {one(0), year()};
            case "wire":
                return new Object[] {one(0), up(6), up(8)};
            case "make":
                return new Object[] {one(0), flag, year(), random.nextInt(3) == 0 ? 1 + up(500) : 1 + up(20)};
            case "ream":
                return new Object[] {up(5)};
            case "put":
                return new Object[] {one(2), one(1), random.nextInt(3) == 0 ? 1 + up(500) : 1 + up(20)};
            case "tariff":
                return new Object[] {one(2)};
            case "document":
                return new Object[] {year() + random.nextInt(band), up(4)};
            case "use":
                return new Object[] {one(3), one(2), random.nextInt(3) == 0 ? 1 + up(50) : 1 + up(6)};
            case "cancel":
                return new Object[] {document, sheet(document), leaf(document), sheet(document)};
            case "cancels":
                return new Object[] {document, sheet(document)};
            case "leafOf":
                return new Object[] {document, sheet(document), leaf(document)};
            case "markIn":
            case "conjugate":
                return new Object[] {document, leaf(document)};
            case "run":
                return new Object[] {one(3), one(3)};
            case "wash":
                return new Object[] {one(3)};
            default:
                return usualOfTheRest(name, flag, document);
        }
    }

    private Object[] usualOfTheRest(String name, boolean flag, int document) {
        switch (name) {
            case "image":
                return new Object[] {document, sheet(document), up(5) - 2, flag ? 255 : up(256)};
            case "setTolerance":
                return new Object[] {up(12)};
            case "distance":
                return new Object[] {one(4), up(4)};
            case "compare":
            case "evidence":
                return new Object[] {one(4), one(4)};
            case "merge":
                return new Object[] {up(4), up(9), up(4), up(9)};
            case "entry":
                return new Object[] {up(4), up(9)};
            case "claim":
            case "unclaim":
                return new Object[] {document, flag ? one(0) : up(3), flag ? up(21) : up(3)};
            case "date":
                return new Object[] {document, random.nextInt(4) == 0 ? 0 : 1440 + random.nextInt(2 * band)};
            case "setAge":
                return new Object[] {flag ? up(13) : up(21) * up(6)};
            case "year":
            case "ground":
                return new Object[] {document, flag};
            case "forged":
                return new Object[] {document, 1440 + random.nextInt(2 * band)};
            default:
                return new Object[0];
        }
    }
}
