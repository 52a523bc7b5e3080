/** Promises 12, 13 and 15 to 18: input, run, and what a run leaves. */
public final class RunTest {
    private static final Due due = new Due();
    private static final int HALF_NOP = 1;
    private static final int NOP = 19;

    private static int e(int kind, int a, int b, int c) {
        return new FencedCode().encode(kind, a, b, c);
    }

    /** Bits that load v into d, by LUI and ADDI. */
    private static int[] load(int d, int v) {
        int low = v << 20 >> 20;
        return new int[] {e(5, d, v - low >>> 12, 0), e(4, d, d, low)};
    }

    private static void stands(String name, FencedCode x, int steps, int address) {
        due.is(name + ": steps", x.state(0, 0), steps);
        due.is(name + ": address", x.state(0, 1), address);
    }

    private static void beginning() {
        FencedCode x = Due.blank(64);
        due.is("run(0)", x.run(0), 0);
        stands("run(0)", x, 0, 48);
        for (int r = 0; r < 32; r++) {
            due.is("register " + r, x.register(0, r), r == 27 ? 240 : r == 28 ? 4096 : r == 29 ? 60 : 0);
        }
        due.is("outputs", x.state(0, 2), 0);
    }

    private static void fuel() {
        FencedCode x = Due.blank(64);
        due.is("run(2)", x.run(2), 0);
        stands("run(2)", x, 2, 56);
        for (int fuel : new int[] {-1, 2001, Integer.MIN_VALUE, Integer.MAX_VALUE}) {
            due.is("run(" + fuel + ")", x.run(fuel), -1);
            stands("a BAD run leaves all", x, 2, 56);
        }
        due.is("run(4)", x.run(4), 0);
        stands("no step left", x, 4, 64);
        due.is("run(5)", x.run(5), 2);
        stands("a step that ends does not count", x, 4, 64);
        FencedCode loop = Due.code(64, e(11, 0, 0, 0));
        due.is("run(2000)", loop.run(2000), 0);
        stands("run(2000)", loop, 2000, 48);
        FencedCode exit = Due.code(64, e(11, 1, -16, 0));
        due.is("run(1)", exit.run(1), 0);
        stands("before EXIT", exit, 1, 32);
        due.is("run(2)", exit.run(2), 1);
        stands("EXIT counts", exit, 2, 32);
    }

    private static void arithmetic(int kind, int s, int t, int want) {
        int[] a = load(5, s);
        int[] b = load(6, t);
        FencedCode x = Due.code(80, a[0], a[1], b[0], b[1], e(kind, 7, 5, 6), e(kind, 0, 5, 6), e(kind, 5, 5, 6));
        due.is("run(7)", x.run(7), 0);
        due.is("kind " + kind + " of " + s + ", " + t, x.register(0, 7), want);
        due.is("register 0", x.register(0, 0), 0);
        due.is("d is s", x.register(0, 5), want);
    }

    private static void arithmetics() {
        int[] some = {0, 1, -1, 5, -77, 123456789, -987654321, Integer.MIN_VALUE, Integer.MAX_VALUE};
        for (int s : some) {
            for (int t : some) {
                arithmetic(0, s, t, s + t);
                arithmetic(1, s, t, s - t);
                arithmetic(2, s, t, s & t);
                arithmetic(3, s, t, s | t);
            }
        }
        FencedCode x = Due.code(80, e(5, 1, 1048575, 0), e(5, 2, 524287, 0), e(4, 2, 2, 2047), e(4, 3, 2, 2047),
                e(13, 3, -32, 0), e(13, 4, 31, 0), e(14, 5, 4, 0), HALF_NOP, e(4, 0, 4, 5), e(5, 0, 5, 0));
        due.is("run(10)", x.run(10), 0);
        stands("halves and words", x, 10, 80);
        due.is("LUI", x.register(0, 1), -4096);
        due.is("ADDI", x.register(0, 2), (524287 << 12) + 2047);
        due.is("ADDI, C.ADDI", x.register(0, 3), (524287 << 12) + 4094 - 32);
        due.is("C.ADDI", x.register(0, 4), 31);
        due.is("C.MV", x.register(0, 5), 31);
        due.is("register 0", x.register(0, 0), 0);
    }

    private static void branch(int kind, int s, int t, boolean goes) {
        int[] a = load(5, s);
        int[] b = load(6, t);
        FencedCode x = Due.code(96, a[0], a[1], b[0], b[1], e(kind, 5, 6, 12));
        due.is("run(5)", x.run(5), 0);
        due.is("kind " + kind + " of " + s + ", " + t, x.state(0, 1), goes ? 76 : 68);
    }

    private static void branches() {
        int[] some = {0, 1, -1, 5, Integer.MIN_VALUE, Integer.MAX_VALUE};
        for (int s : some) {
            for (int t : some) {
                branch(8, s, t, s == t);
                branch(9, s, t, s != t);
                branch(10, s, t, s < t);
            }
        }
        FencedCode x = Due.code(96, NOP, NOP, e(8, 0, 0, -8));
        due.is("run(3)", x.run(3), 0);
        stands("back", x, 3, 48);
    }

    private static void jumps() {
        FencedCode x = Due.code(96, NOP, e(11, 3, 20, 0));
        due.is("run(2)", x.run(2), 0);
        stands("JAL", x, 2, 72);
        due.is("d", x.register(0, 3), 56);
        x = Due.code(96, e(4, 5, 0, 75), e(12, 5, 5, -6));
        due.is("run(2)", x.run(2), 0);
        stands("JALR", x, 2, 68);
        due.is("d is s", x.register(0, 5), 56);
        x = Due.code(96, e(4, 5, 0, 80), e(12, 0, 5, 0), NOP);
        due.is("run(2)", x.run(2), 0);
        stands("JALR 0", x, 2, 80);
        due.is("register 0", x.register(0, 0), 0);
        x = Due.code(96, e(12, 1, 0, -1));
        due.is("run(9)", x.run(9), 2);
        stands("JALR to -2", x, 1, -2);
        x = Due.code(96, e(11, 1, -1048576, 0));
        due.is("run(9)", x.run(9), 2);
        stands("JAL far away", x, 1, 48 - 1048576);
    }

    private static void offsets() {
        for (int bit = 1; bit <= 20; bit++) {
            for (int o : new int[] {bit == 20 ? -(1 << 20) : 1 << bit, -(1 << bit), (1 << bit) - 2, 2 - (1 << bit)}) {
                FencedCode x = Due.code(64, e(11, 0, o, 0));
                x.run(1);
                stands("JAL by " + o, x, 1, 48 + o);
                if (o >= -4096 && o <= 4094) {
                    x = Due.code(64, e(8, 0, 0, o));
                    x.run(1);
                    stands("BEQ by " + o, x, 1, 48 + o);
                }
                if (o >= -2048 && o <= 2046) {
                    x = Due.code(64, e(12, 0, 0, o));
                    x.run(1);
                    stands("JALR by " + o, x, 1, o);
                }
            }
        }
    }

    private static void nowhere() {
        for (int to = -2; to <= 100; to += 2) {
            FencedCode x = Due.code(96, e(11, 0, to - 48, 0));
            boolean isService = to == 0 || to == 16 || to == 32;
            boolean isCode = to >= 48 && to < 96;
            int end = x.run(2);
            if (!isService && !isCode) {
                due.is("to " + to, end, 2);
                stands("to " + to, x, 1, to);
            } else {
                due.is("to " + to, end != 2, true);
            }
        }
        FencedCode x = Due.blank(64);
        x.length(48);
        due.is("a code of 48 bytes", x.run(9), 2);
        stands("a code of 48 bytes", x, 0, 48);
        x = Due.blank(256);
        due.is("up to the last byte", x.run(99), 2);
        stands("up to the last byte", x, 52, 256);
    }

    private static void illegal() {
        FencedCode x = Due.code(64, NOP, 0);
        due.is("run(9)", x.run(9), 3);
        stands("ILLEGAL", x, 1, 52);
        x = Due.code(64, NOP, 115);
        due.is("run(9)", x.run(9), 3);
        for (int n = 53; n <= 55; n++) {
            x = Due.blank(64);
            x.length(n);
            due.is("over the end of " + n, x.run(9), 3);
            stands("over the end of " + n, x, 1, 52);
        }
        x = Due.code(64, HALF_NOP);
        x.length(49);
        due.is("a half over the end", x.run(9), 3);
        x.length(50);
        due.is("a half up to the end", x.run(9), 2);
        stands("a half up to the end", x, 1, 50);
        x = Due.code(96, NOP, NOP, NOP, HALF_NOP, e(4, 1, 0, 7), HALF_NOP);
        due.is("over a bundle's end the machine goes on", x.run(6), 0);
        due.is("register 1", x.register(0, 1), 7);
        x = Due.code(64, e(11, 0, 6, 0), 0x00130000 | 19);
        due.is("into the middle of an instruction", x.run(2), 0);
        stands("into the middle of an instruction", x, 2, 58);
    }

    private static void data() {
        for (int w = 0; w < 16; w++) {
            int[] v = load(2, 0x12345678 * (w + 3));
            FencedCode x = Due.code(96, e(5, 1, 1, 0), v[0], v[1], e(7, 2, 1, 4 * w), e(6, 3, 1, 4 * w),
                    e(6, 0, 1, 4 * w));
            due.is("run(6)", x.run(6), 0);
            for (int other = 0; other < 16; other++) {
                due.is("word " + other, x.word(0, other), other == w ? 0x12345678 * (w + 3) : 0);
            }
            due.is("loaded", x.register(0, 3), 0x12345678 * (w + 3));
            due.is("register 0", x.register(0, 0), 0);
            due.is("run(3)", x.run(3), 0);
            due.is("data begins anew", x.word(0, w), 0);
        }
        for (int i : new int[] {-4, -1, 1, 2, 3, 5, 61, 62, 63, 64, 68, 2044, -2048}) {
            for (int kind = 6; kind <= 7; kind++) {
                FencedCode x = Due.code(96, e(5, 1, 1, 0), e(4, 2, 0, 9), e(kind, 2, 1, i));
                due.is("run(9)", x.run(9), 4);
                stands("OUTSIDE", x, 2, 56);
                due.is("register 2", x.register(0, 2), 9);
            }
        }
        FencedCode none = Due.code(96, e(6, 0, 0, 0));
        due.is("LW 0 counts as outside too", none.run(9), 4);
        FencedCode wraps = Due.code(96, e(5, 1, 1, 0), e(4, 1, 1, 2040), e(6, 2, 1, -2040));
        due.is("a number below 0", wraps.run(3), 0);
    }

    private static void services() {
        FencedCode x = Due.code(96, e(4, 10, 0, 5), e(4, 1, 0, 79), e(11, 0, 16 - 56, 0));
        due.is("run(4)", x.run(4), 0);
        stands("WRITE goes on at (register 1) & 240", x, 4, 64);
        due.is("outputs", x.state(0, 2), 1);
        due.is("output 0", x.output(0, 0), 5);
        due.is("output 1", x.output(0, 1), 0);
        x = Due.code(96, e(4, 1, 0, -1), e(11, 0, -52, 0));
        due.is("input(9)", x.input(9), 1);
        due.is("run(9)", x.run(9), 2);
        stands("READ goes on at 240", x, 3, 240);
        due.is("register 10", x.register(0, 10), 9);
        x = Due.code(96, e(11, 0, -48, 0));
        x.input(3);
        x.input(4);
        due.is("READ at 0 comes back to 0", x.run(3), 0);
        stands("READ at 0", x, 3, 0);
        due.is("register 10", x.register(0, 10), 4);
        due.is("run(4)", x.run(4), 0);
        due.is("no more input", x.register(0, 10), -1);
        due.is("run(2)", x.run(2), 0);
        due.is("inputs begin anew", x.register(0, 10), 3);
    }

    private static void inputs() {
        FencedCode x = Due.code(96, e(11, 0, -48, 0));
        for (int n = 1; n <= 20; n++) {
            due.is("input " + n, x.input(n == 2 ? Integer.MIN_VALUE : 100 * n), n);
        }
        due.is("one more", x.input(5), -2);
        due.is("and one more", x.input(6), -2);
        for (int n = 1; n <= 23; n++) {
            x.run(n + 1);
            due.is("read " + n, x.register(0, 10), n > 20 ? -1 : n == 2 ? Integer.MIN_VALUE : 100 * n);
        }
    }

    /** Puts register 10, one higher each time, to the output. */
    private static void outputs() {
        FencedCode x = Due.code(64, e(13, 10, 1, 0), HALF_NOP, NOP, NOP, e(11, 1, 16 - 60, 0));
        x.length(80);
        Due.put(x, 64, e(11, 0, -16, 0));
        for (int n : new int[] {1, 39, 40, 41, 60}) {
            due.is("run", x.run(n * 7 - 1), 0);
            due.is("outputs", x.state(0, 2), Math.min(n, 40));
            due.is("register 10", x.register(0, 10), n);
            for (int i = -1; i <= 41; i++) {
                due.is("output " + i, x.output(0, i), i >= 0 && i < Math.min(n, 40) ? i + 1 : 0);
            }
        }
        due.is("run(0)", x.run(0), 0);
        due.is("no output", x.state(0, 2), 0);
        due.is("output 0", x.output(0, 0), 0);
    }

    private static void otherNumbers() {
        FencedCode x = Due.code(96, e(5, 1, 1, 0), e(4, 2, 0, 7), e(7, 2, 1, 0), e(7, 2, 1, 60));
        x.run(4);
        x.trial(4);
        int[] none = {-1, 2, 3, Integer.MIN_VALUE, Integer.MAX_VALUE};
        for (int n : none) {
            due.is("state(" + n + ", 0)", x.state(n, 0), -1);
            due.is("output(" + n + ", 0)", x.output(n, 0), 0);
            due.is("register(" + n + ", 2)", x.register(n, 2), 0);
            due.is("word(" + n + ", 0)", x.word(n, 0), 0);
        }
        for (int n : new int[] {-1, 3, 4, Integer.MIN_VALUE, Integer.MAX_VALUE}) {
            due.is("state(0, " + n + ")", x.state(0, n), -1);
            due.is("state(1, " + n + ")", x.state(1, n), -1);
            due.is("state of a new object", new FencedCode().state(0, n), -1);
        }
        for (int n : new int[] {-1, 32, 33, Integer.MIN_VALUE, Integer.MAX_VALUE}) {
            due.is("register(0, " + n + ")", x.register(0, n), 0);
        }
        for (int n : new int[] {-1, 16, 17, Integer.MIN_VALUE, Integer.MAX_VALUE}) {
            due.is("word(0, " + n + ")", x.word(0, n), 0);
        }
        due.is("word(0, 0)", x.word(0, 0), 7);
        due.is("word(0, 15)", x.word(0, 15), 7);
        due.is("word(1, 0)", x.word(1, 0), 0);
        due.is("register(0, 31)", x.register(0, 31), 0);
        due.is("register(1, 2)", x.register(1, 2), 0);
    }

    private static void whatIsLeftStays() {
        FencedCode x = Due.code(64, e(4, 31, 0, 5), e(4, 27, 0, 6));
        x.run(9);
        x.length(0);
        x.build();
        x.clear();
        x.trial(3);
        stands("after other calls", x, 4, 64);
        due.is("register 31", x.register(0, 31), 5);
        due.is("register 27", x.register(0, 27), 6);
        x.run(0);
        due.is("register 27 begins anew", x.register(0, 27), 240);
    }

    public static void main(String[] args) {
        beginning();
        fuel();
        arithmetics();
        branches();
        jumps();
        offsets();
        nowhere();
        illegal();
        data();
        services();
        inputs();
        outputs();
        otherNumbers();
        whatIsLeftStays();
        due.end();
    }
}
