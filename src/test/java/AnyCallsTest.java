import java.lang.reflect.Method;
import java.lang.reflect.Modifier;
import java.util.Arrays;
import java.util.Map;
import java.util.TreeMap;

/**
 * The whole face, promises 1 to 18, and rules 7 and 13 of LANGUAGE.md: 512 calls with any numbers, the edges of the
 * document and of int among them, throw nothing, end, and are answered as FaceModel answers them and as a second
 * object does.
 */
public final class AnyCallsTest {
    private static final int CALLS = 512;
    private static final int[] EDGES = {Integer.MIN_VALUE, Integer.MIN_VALUE + 1, -1048577, -1048576, -4097, -4096,
        -2049, -2048, -33, -32, -2, -1, 0, 1, 2, 3, 15, 16, 17, 19, 20, 21, 26, 27, 31, 32, 39, 40, 41, 47, 48, 49, 63,
        64, 240, 255, 256, 257, 2000, 2001, 2047, 2048, 4094, 4095, 4096, 1048574, 1048575, 1048576,
        Integer.MAX_VALUE - 1, Integer.MAX_VALUE};
    private static final int[] LENGTHS = {0, 47, 48, 49, 63, 64, 65, 80, 96, 112, 128, 240, 255, 256};
    /** What is asked more often, so that there is something to run and to look at. */
    private static final String[] OFTEN = {"line", "line", "line", "line", "build", "input", "run", "trial", "trial",
        "check", "state", "output", "register", "word", "instruction", "instruction", "instruction", "instruction"};
    private static final Due due = new Due();
    private static final Map<String, Method> FACE = new TreeMap<>();
    private static final Map<String, Method> MODEL = new TreeMap<>();
    private static final Map<String, Integer> answers = new TreeMap<>();

    private final FencedCode x = new FencedCode();
    private final FencedCode y = new FencedCode();
    private final FaceModel model = new FaceModel();
    private final String name;
    private final Due.Dice dice;
    private int made = 0;

    private AnyCallsTest(String name, Due.Dice dice) {
        this.name = name;
        this.dice = dice;
    }

    private static long number(Object answer) {
        return answer instanceof Boolean ? ((Boolean) answer ? 1 : 0) : (Integer) answer;
    }

    private long call(String method, Object... numbers) throws ReflectiveOperationException {
        made++;
        String call = name + ", call " + made + ": " + method + Arrays.toString(numbers);
        long want = number(MODEL.get(method).invoke(model, numbers));
        due.is(call, number(FACE.get(method).invoke(x, numbers)), want);
        due.is(call + " of a second object", number(FACE.get(method).invoke(y, numbers)), want);
        answers.merge(method + (want == -1 ? " BAD" : want == -2 ? " FULL" : ""), 1, Integer::sum);
        return want;
    }

    private int any() {
        int way = dice.below(4);
        return way == 0 ? dice.bits() : way == 1 ? EDGES[dice.below(EDGES.length)] : dice.below(way == 2 ? 21 : 260);
    }

    private Object[] numbers(String method) {
        Object[] numbers = new Object[FACE.get(method).getParameterCount()];
        for (int n = 0; n < numbers.length; n++) {
            numbers[n] = any();
        }
        if (dice.below(5) == 0) {
            return numbers;
        }
        if (method.equals("line")) {
            int[] two = RandomProgram.make(dice, 2, dice.below(40) == 0 ? 20 : 3);
            int from = dice.below(10) == 0 ? 0 : 4;
            Arrays.setAll(numbers, n -> two[from + n]);
        } else if (method.equals("length")) {
            numbers[0] = LENGTHS[dice.below(LENGTHS.length)];
        } else if (method.equals("run") || method.equals("trial")) {
            // A long run of the model takes its time.
            numbers[0] = dice.below(dice.below(2) == 0 ? 20 : 200);
        } else if (method.equals("kind")) {
            numbers[0] = RandomCode.some(dice, 48)[0];
        } else if (method.equals("encode")) {
            numbers[0] = dice.below(15);
            numbers[1] = dice.below(32);
            numbers[2] = dice.below(32);
        } else if (numbers.length == 2 && !method.equals("poke")) {
            numbers[0] = dice.below(2);
            numbers[1] = dice.below(method.equals("state") ? 3 : 33);
        }
        return numbers;
    }

    /** Pokes what has some meaning, at an address where instructions may begin. */
    private void pokeInstructions() throws ReflectiveOperationException {
        int at = dice.below(3) == 0 ? 48 : 48 + 2 * dice.below(32);
        for (int bits : RandomCode.some(dice, at)) {
            for (int n = 0; n < Due.size(bits) && made < CALLS; n++, at++) {
                call("poke", at, bits >>> 8 * n & 255);
            }
        }
    }

    private void callAll() throws ReflectiveOperationException {
        String[] names = FACE.keySet().toArray(new String[0]);
        while (made < CALLS) {
            String method = dice.below(2) == 0 ? names[dice.below(names.length)] : OFTEN[dice.below(OFTEN.length)];
            // Rarely, so that programs and codes get some length.
            boolean isReset = method.equals("clear") || method.equals("length");
            if (method.equals("instruction")) {
                pokeInstructions();
            } else if (!isReset || dice.below(6) == 0) {
                call(method, numbers(method));
            }
        }
    }

    private static void enough(String what, int least) {
        int count = answers.getOrDefault(what, 0);
        due.is("enough answers, " + what + ": " + count, count >= least, true);
    }

    public static void main(String[] args) throws ReflectiveOperationException {
        for (Method method : FencedCode.class.getDeclaredMethods()) {
            if (Modifier.isPublic(method.getModifiers())) {
                String name = method.getName();
                FACE.put(name, method);
                MODEL.put(name, FaceModel.class.getDeclaredMethod(name, method.getParameterTypes()));
            }
        }
        Due.Dice dice = new Due.Dice(512);
        for (int round = 0; round < 1500; round++) {
            new AnyCallsTest("round " + round, dice).callAll();
        }
        for (String method : FACE.keySet()) {
            enough(method, 2000);
        }
        for (String what : new String[] {"encode BAD", "kind BAD", "line BAD", "line FULL", "build BAD", "build FULL",
            "address BAD", "peek BAD", "check BAD", "input FULL", "run BAD", "trial BAD", "state BAD"}) {
            enough(what, 300);
        }
        due.end();
    }
}
