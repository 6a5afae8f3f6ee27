import java.lang.reflect.InvocationTargetException;
import java.lang.reflect.Method;
import java.lang.reflect.Modifier;
import java.util.ArrayList;
import java.util.Arrays;
import java.util.Comparator;
import java.util.List;
import java.util.Map;
import java.util.Random;

/** Random runs of at most 512 calls, each call made on the program and on the Oracle. */
public final class OracleTest {
    private static final int RUNS = 120;
    private static final int CALLS = 508;
    private static final int[] ODD = {Integer.MIN_VALUE, Integer.MIN_VALUE + 1, -1000, -200, -199, -100, -65, -1, 0,
        1, 2, 5, 8, 13, 17, 47, 48, 49, 65, 80, 100, 127, 199, 1 << 16, Integer.MAX_VALUE - 8, Integer.MAX_VALUE};
    private static final Map<String, int[][]> RANGES = Map.ofEntries(
            Map.entry("add", new int[][] {{-99, 99}}),
            Map.entry("echo", new int[][] {{1, 16}, {1, 12}, {1, 9}}),
            Map.entry("change", new int[][] {{-1, 48}, {-99, 99}}),
            Map.entry("setDelay", new int[][] {{1, 12}}),
            Map.entry("setSpeed", new int[][] {{0, 3}}),
            Map.entry("setWeight", new int[][] {{1, 4}, {-64, 64}}),
            Map.entry("turnKind", new int[][] {{0, 4}}),
            Map.entry("tamper", new int[][] {{-1, 48}, {-198, 198}}),
            Map.entry("sampleAt", new int[][] {{-1, 48}}),
            Map.entry("firstWeight", new int[][] {{0, 5}}),
            Map.entry("weightAt", new int[][] {{1, 4}, {-1, 49}}),
            Map.entry("weightByCounting", new int[][] {{1, 4}, {-1, 49}}),
            Map.entry("foretold", new int[][] {{0, 4}, {-1, 49}}),
            Map.entry("leftOver", new int[][] {{0, 4}, {-1, 48}}),
            Map.entry("sumOf", new int[][] {{0, 4}}),
            Map.entry("sumWithDelay", new int[][] {{1, 12}}),
            Map.entry("bestFirst", new int[][] {{1, 4}}),
            Map.entry("bitsWith", new int[][] {{-1, 6}, {0, 4}, {0, 7}}),
            Map.entry("bestParameter", new int[][] {{-1, 6}, {0, 4}}),
            Map.entry("bestKind", new int[][] {{-1, 6}}),
            Map.entry("whyBest", new int[][] {{-1, 6}}),
            Map.entry("blocksWith", new int[][] {{0, 4}}),
            Map.entry("bitsIfOnly", new int[][] {{0, 4}}),
            Map.entry("letterKind", new int[][] {{-1, 6}}),
            Map.entry("letterParameter", new int[][] {{-1, 6}}),
            Map.entry("letterLeft", new int[][] {{-1, 48}}),
            Map.entry("letterBit", new int[][] {{-1, 300}}),
            Map.entry("heard", new int[][] {{-1, 48}}),
            Map.entry("heardByBits", new int[][] {{-1, 48}}),
            Map.entry("harm", new int[][] {{-1, 48}}),
            Map.entry("keep", new int[][] {{0, 1}}),
            Map.entry("goBack", new int[][] {{0, 1}}),
            Map.entry("append", new int[][] {{33, 126}}));

    private final Random random;
    private final int run;
    private final CaveEchoes cave = new CaveEchoes();
    private final Oracle oracle = new Oracle();
    private final List<Method> methods = faceMethods();
    private int calls = 0;

    private OracleTest(int run) {
        this.run = run;
        this.random = new Random(run);
    }

    public static void main(String[] args) throws Exception {
        for (int run = 0; run < RUNS; run++) {
            new OracleTest(run).go();
        }
        Checks.end("OracleTest");
    }

    private static List<Method> faceMethods() {
        List<Method> methods = new ArrayList<>();
        for (Method method : CaveEchoes.class.getDeclaredMethods()) {
            if (Modifier.isPublic(method.getModifiers())) {
                methods.add(method);
            }
        }
        methods.sort(Comparator.comparing(Method::getName));
        return methods;
    }

    private void go() throws Exception {
        // some runs start with a sound that is long, soft, loud or like itself some time before
        int start = random.nextInt(49);
        int size = new int[] {1, 4, 20, 99}[random.nextInt(4)];
        int period = 1 + random.nextInt(12);
        for (int t = 0; t < start; t++) {
            int noise = random.nextInt(2 * size + 1) - size;
            int sample = t >= period && random.nextInt(4) > 0 ? oracle.sampleAt(t - period) : noise;
            call(CaveEchoes.class.getMethod("add", int.class), sample);
        }
        while (calls < CALLS) {
            int dice = random.nextInt(30);
            if (dice == 0) {
                works();
            } else if (dice == 1 && oracle.samples() > 0) {
                call(CaveEchoes.class.getMethod("send"));
            } else if (dice == 2) {
                call(CaveEchoes.class.getMethod("digest"));
            } else {
                any();
            }
        }
    }

    private void any() throws Exception {
        Method method = methods.get(random.nextInt(methods.size()));
        if (method.getName().equals("empty") && random.nextInt(8) > 0) {
            return;
        }
        int[][] ranges = RANGES.getOrDefault(method.getName(), new int[0][]);
        Object[] arguments = new Object[ranges.length];
        for (int i = 0; i < ranges.length; i++) {
            arguments[i] = argument(ranges[i]);
        }
        call(method, arguments);
    }

    private int argument(int[] range) {
        int dice = random.nextInt(40);
        if (dice == 0) {
            return ODD[random.nextInt(ODD.length)];
        }
        if (dice < 4) {
            return range[dice % 2] + random.nextInt(3) - 1;
        }
        return range[0] + random.nextInt(range[1] - range[0] + 1);
    }

    private void works() throws Exception {
        Method append = CaveEchoes.class.getMethod("append", int.class);
        StringBuilder text = new StringBuilder(work());
        for (int more = random.nextInt(8); more > 0; more--) {
            text.append(';').append(work());
        }
        if (random.nextInt(3) == 0) {
            String codes = "+-0123456789dvkwstx;:a~";
            text.setCharAt(random.nextInt(text.length()), codes.charAt(random.nextInt(codes.length())));
        }
        for (int i = 0; i < text.length() && calls < CALLS - 2; i++) {
            call(append, (int) text.charAt(i));
            if (random.nextInt(10) == 0) {
                call(CaveEchoes.class.getMethod("firstError"));
            }
        }
        call(CaveEchoes.class.getMethod("firstError"));
        call(CaveEchoes.class.getMethod(random.nextInt(6) == 0 ? "clearText" : "doWorks"));
    }

    private String work() {
        String sign = random.nextBoolean() ? "-" : "";
        return switch (random.nextInt(10)) {
            case 0, 1 -> "+" + random.nextInt(101);
            case 2 -> "-" + random.nextInt(101);
            case 3 -> "d" + random.nextInt(14);
            case 4 -> "v" + random.nextInt(5);
            case 5 -> "k" + random.nextInt(6);
            case 6 -> "w" + (1 + random.nextInt(4)) + ":" + sign + random.nextInt(66);
            case 7 -> "t" + random.nextInt(49) + ":" + sign + random.nextInt(200);
            case 8 -> random.nextInt(8) == 0 ? "x" : "s";
            default -> "s";
        };
    }

    private void call(Method method, Object... arguments) throws Exception {
        calls++;
        Object answer = answer(method, cave, arguments);
        Method same = Oracle.class.getMethod(method.getName(), method.getParameterTypes());
        Object want = answer(same, oracle, arguments);
        Checks.due("run " + run + ", call " + calls + ": " + method.getName() + Arrays.toString(arguments), answer, want);
    }

    private static Object answer(Method method, Object on, Object[] arguments) throws Exception {
        try {
            return method.invoke(on, arguments);
        } catch (InvocationTargetException e) {
            return e.getCause().getClass();
        }
    }
}
