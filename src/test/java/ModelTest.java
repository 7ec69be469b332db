import java.lang.reflect.Method;
import java.util.HashMap;
import java.util.Map;
import java.util.Random;

/** Long runs of calls, drawn by fixed seeds, answered by the class and by the model alike. */
public final class ModelTest {
    private static final int RUNS = 1500;
    // Each has a digest() behind it, and an object is promised for 512 calls.
    private static final int CALLS = 256;

    /** A call's name, then what each of its arguments is; a call that stands twice is drawn twice as often. */
    private static final String[] SHAPES = {
        "sign b s", "signs b n l", "signs b n l", "text b t", "part b t p p", "number b v", "insert b p t",
        "insertPart b p t p p", "insertSign b p s", "delete b p p", "deleteAt b p", "replace b p p t", "reverse b",
        "put b p s", "length b n", "at b p", "size b", "first b t p", "last b t p", "take b p p t", "take b p p t",
        "take b p p t", "ahead b b", "forget t", "textSize t", "signAt t p", "firstSign t s p", "lastSign t s p",
        "firstText t t p", "lastText t t p", "region t p t p p", "order t t", "begins t t p", "swap t s s t",
        "sub t p p t", "trim t t", "repeat t n t", "join t t t", "split t s m", "split t s m", "parts", "partTo p t",
        "joined s t", "cutter c t t g", "cutter c t t g", "more c", "left c", "next c t", "next c t", "nextBy c t t"};

    private static final int[] SOME_SIGNS = {32, 44, 44, 59, 97, 97, 98, 0, 255};
    private static final int[] ODD_SIGNS = {-1, 256, 36, 46, 92, 124, 33, 31, Integer.MIN_VALUE, Integer.MAX_VALUE};
    private static final int[] ODD_PLACES = {
        -1, -2, 199, 200, 201, 9, 10, Integer.MIN_VALUE, Integer.MAX_VALUE, Integer.MAX_VALUE - 1};

    private final Random random;
    private final int reach;

    private ModelTest(long seed) {
        random = new Random(seed);
        // Short rows meet one another's edges, long ones the end of what a row may have.
        reach = seed % 3 == 0 ? 200 : seed % 3 == 1 ? 6 : 20;
    }

    public static void main(String[] args) throws ReflectiveOperationException {
        Map<String, Method> ours = methods(RowsOfSigns.class);
        Map<String, Method> models = methods(Model.class);
        Due due = new Due();
        for (int run = 0; run < RUNS; run++) {
            new ModelTest(run).run(due, ours, models);
        }
        due.end();
    }

    private static Map<String, Method> methods(Class<?> type) {
        Map<String, Method> all = new HashMap<>();
        for (Method method : type.getMethods()) {
            all.put(method.getName(), method);
        }
        return all;
    }

    private void run(Due due, Map<String, Method> ours, Map<String, Method> models)
            throws ReflectiveOperationException {
        RowsOfSigns x = new RowsOfSigns();
        Model model = new Model();
        StringBuilder calls = new StringBuilder();
        for (int i = 0; i < CALLS; i++) {
            String[] shape = SHAPES[random.nextInt(SHAPES.length)].split(" ");
            Object[] arguments = new Object[shape.length - 1];
            for (int a = 0; a < arguments.length; a++) {
                arguments[a] = drawn(shape[a + 1].charAt(0));
            }
            calls.append(shape[0]).append(java.util.Arrays.toString(arguments)).append(' ');
            long got = ((Number) ours.get(shape[0]).invoke(x, arguments)).longValue();
            long want = ((Number) models.get(shape[0]).invoke(model, arguments)).longValue();
            long gotDigest = x.digest();
            long wantDigest = model.digest();
            boolean same = got == want && gotDigest == wantDigest;
            due.is(same ? "" : "the last of " + calls, got, want);
            due.is(same ? "" : "digest() behind " + calls, gotDigest, wantDigest);
            if (!same) {
                return;
            }
        }
    }

    private boolean seldom() {
        return random.nextInt(25) == 0;
    }

    private int oneOf(int[] numbers) {
        return numbers[random.nextInt(numbers.length)];
    }

    private Object drawn(char kind) {
        switch (kind) {
            case 'b':
                return seldom() ? random.nextInt(6) - 1 : random.nextInt(2);
            case 't':
                return seldom() ? random.nextInt(10) - 1 : random.nextInt(4);
            case 'c':
                return seldom() ? random.nextInt(4) - 1 : random.nextInt(2);
            case 's':
                return seldom() ? oneOf(ODD_SIGNS) : oneOf(SOME_SIGNS);
            case 'n':
                return seldom() ? oneOf(ODD_PLACES) : random.nextInt(9);
            case 'p':
                return seldom() ? oneOf(ODD_PLACES) : random.nextInt(reach + 1);
            case 'm':
                return seldom() ? oneOf(ODD_PLACES) : random.nextInt(8) - 2;
            case 'g':
                return random.nextBoolean();
            case 'v':
                return random.nextBoolean() ? random.nextLong() : random.nextLong() >> random.nextInt(64);
            default:
                return letters();
        }
    }

    private long letters() {
        long letters = 0;
        for (int i = 0; i < 8; i++) {
            letters = letters << 8 | oneOf(SOME_SIGNS);
        }
        return letters;
    }
}
