import java.util.ArrayList;
import java.util.List;

/** The whole face as the document tells it, a second time: lists that grow, and the slow models. */
final class FaceModel {
    private static final int BAD = -1, FULL = -2;

    private final List<int[]> lines = new ArrayList<>();
    private final List<Integer> inputs = new ArrayList<>();
    private List<Integer> code = new ArrayList<>();
    private int[] program = {};
    /** None before the first build that is neither BAD nor FULL. */
    private int[] addresses = {};
    private final Outcome[] latest = {new Outcome(), new Outcome()};

    private static boolean in(int v, int low, int high) {
        return low <= v && v <= high;
    }

    private static boolean are(int top, int... registers) {
        for (int r : registers) {
            if (!in(r, 0, top)) {
                return false;
            }
        }
        return true;
    }

    /** Kinds 0 to 7, 13 and 14, which lines and encode take alike. */
    private static boolean isPlain(int kind, int a, int b, int c, int top) {
        boolean isNop = a == 0 && b == 0;
        return in(kind, 0, 3) && are(top, a, b, c)
                || (kind == 4 || kind == 6 || kind == 7) && are(top, a, b) && in(c, -2048, 2047)
                || kind == 5 && are(top, a) && in(b, 0, 1048575)
                || kind == 13 && (isNop || are(top, a) && a != 0 && b != 0 && in(b, -32, 31))
                || kind == 14 && are(top, a, b) && a != 0 && b != 0;
    }

    static int encode(int kind, int a, int b, int c) {
        boolean isBranch = in(kind, 8, 10) && are(31, a, b) && in(c, -4096, 4094) && c % 2 == 0;
        boolean isJump = kind == 11 && are(31, a) && in(b, -1048576, 1048574) && b % 2 == 0;
        boolean isLeap = kind == 12 && are(31, a, b) && in(c, -2048, 2047);
        if (!isBranch && !isJump && !isLeap && !isPlain(kind, a, b, c, 31)) {
            return BAD;
        }
        switch (kind) {
            case 0: return Due.fields(0, 7, c, 5, b, 5, 0, 3, a, 5, 51, 7);
            case 1: return Due.fields(32, 7, c, 5, b, 5, 0, 3, a, 5, 51, 7);
            case 2: return Due.fields(0, 7, c, 5, b, 5, 7, 3, a, 5, 51, 7);
            case 3: return Due.fields(0, 7, c, 5, b, 5, 6, 3, a, 5, 51, 7);
            case 4: return Due.fields(c, 12, b, 5, 0, 3, a, 5, 19, 7);
            case 5: return Due.fields(b, 20, a, 5, 55, 7);
            case 6: return Due.fields(c, 12, b, 5, 2, 3, a, 5, 3, 7);
            case 7: return Due.fields(c >> 5, 7, a, 5, b, 5, 2, 3, c, 5, 35, 7);
            case 8: case 9: case 10:
                int three = kind == 8 ? 0 : kind == 9 ? 1 : 4;
                return Due.fields(c >> 12, 1, c >> 5, 6, b, 5, a, 5, three, 3, c >> 1, 4, c >> 11, 1, 99, 7);
            case 11: return Due.fields(b >> 20, 1, b >> 1, 10, b >> 11, 1, b >> 12, 8, a, 5, 111, 7);
            case 12: return Due.fields(c, 12, b, 5, 0, 3, a, 5, 103, 7);
            case 13: return Due.fields(0, 3, b >> 5, 1, a, 5, b, 5, 1, 2);
            default: return Due.fields(8, 4, a, 5, b, 5, 2, 2);
        }
    }

    static int kind(int bits) {
        List<String> names = List.of("ADD", "SUB", "AND", "OR", "ADDI", "LUI", "LW", "SW", "BEQ", "BNE", "BLT", "JAL",
                "JALR", "C.ADDI", "C.MV");
        return names.indexOf(TextModel.text(bits).split(" ")[0]);
    }

    int line(int kind, int a, int b, int c) {
        boolean isRight = isPlain(kind, a, b, c, 26)
                || in(kind, 8, 10) && are(26, a, b) && in(c, 0, 20)
                || (kind == 11 || kind == 16) && are(26, a) && in(b, 0, 20)
                || kind == 12 && are(26, a, b)
                || kind == 15 && in(a, 0, 2);
        if (!isRight) {
            return BAD;
        }
        if (lines.size() == 20) {
            return FULL;
        }
        lines.add(new int[] {kind, a, b, c});
        return lines.size();
    }

    int clear() {
        int were = lines.size();
        lines.clear();
        return were;
    }

    int build() {
        int[] numbers = new int[4 * lines.size()];
        for (int n = 0; n < lines.size(); n++) {
            int[] line = lines.get(n);
            int target = in(line[0], 8, 10) ? line[3] : line[0] == 11 || line[0] == 16 ? line[2] : 0;
            if (target > lines.size()) {
                return BAD;
            }
            System.arraycopy(line, 0, numbers, 4 * n, 4);
        }
        RewriteModel model = new RewriteModel(numbers);
        if (model.size > 256) {
            return FULL;
        }
        program = numbers;
        addresses = model.addresses;
        code = new ArrayList<>(model.bytes);
        return code.size();
    }

    int address(int target) {
        return in(target, 0, addresses.length - 1) ? addresses[target] : BAD;
    }

    boolean length(int n) {
        if (!in(n, 0, 256)) {
            return false;
        }
        while (code.size() > n) {
            code.remove(code.size() - 1);
        }
        while (code.size() < n) {
            code.add(0);
        }
        return true;
    }

    boolean poke(int i, int b) {
        boolean may = in(i, 0, code.size() - 1) && in(b, 0, 255);
        if (may) {
            code.set(i, b);
        }
        return may;
    }

    int peek(int i) {
        return i == -1 ? code.size() : in(i, 0, code.size() - 1) ? code.get(i) : BAD;
    }

    private TextModel machine() {
        int[] bytes = new int[code.size()];
        for (int i = 0; i < bytes.length; i++) {
            bytes[i] = code.get(i);
        }
        return new TextModel(bytes, inputs);
    }

    int check() {
        return machine().check();
    }

    int input(int v) {
        if (inputs.size() == 20) {
            return FULL;
        }
        inputs.add(v);
        return inputs.size();
    }

    int run(int fuel) {
        if (!in(fuel, 0, 2000)) {
            return BAD;
        }
        TextModel machine = machine();
        latest[0] = machine;
        return machine.run(fuel);
    }

    int trial(int fuel) {
        if (!in(fuel, 0, 2000)) {
            return BAD;
        }
        TrialModel trial = new TrialModel(program, addresses, inputs);
        latest[1] = trial;
        return trial.go(fuel);
    }

    int state(int who, int what) {
        if (!in(who, 0, 1) || !in(what, 0, 2)) {
            return BAD;
        }
        return what == 0 ? latest[who].steps : what == 1 ? latest[who].place : latest[who].outputs.size();
    }

    int output(int who, int i) {
        return in(who, 0, 1) && in(i, 0, latest[who].outputs.size() - 1) ? latest[who].outputs.get(i) : 0;
    }

    int register(int who, int r) {
        return in(who, 0, 1) && in(r, 0, 31) ? latest[who].registers[r] : 0;
    }

    int word(int who, int w) {
        return in(who, 0, 1) && in(w, 0, 15) ? latest[who].data[w] : 0;
    }
}
