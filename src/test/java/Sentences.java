import java.lang.reflect.Method;
import java.util.Arrays;
import java.util.Comparator;

/**
 * Tests that hold one sentence of the document each. Every method of a class below this one that takes and
 * gives nothing is such a test: it quotes its sentence first, and then asks.
 */
abstract class Sentences {
    static final int ADD = 0, SUB = 1, AND = 2, OR = 3, ADDI = 4, LUI = 5, LW = 6, SW = 7;
    static final int BEQ = 8, BNE = 9, BLT = 10, JAL = 11, JALR = 12, C_ADDI = 13, C_MV = 14;
    static final int CALL = 15, ADDRESS = 16;
    static final int READ = 0, WRITE = 1, EXIT = 2;
    static final int BAD = -1, FULL = -2;
    static final int HALF_NOP = 1, NOP = 19;
    static final int LOW = Integer.MIN_VALUE, HIGH = Integer.MAX_VALUE;
    /** Who: the first number of state, output, register and word. */
    static final int RUN = 0, TRIAL = 1;

    private final Document document;
    private final Due due;
    private String heading;
    private int quotes;
    private int asked;

    Sentences(Document document, Due due) {
        this.document = document;
        this.due = due;
    }

    final void holdAll() throws ReflectiveOperationException {
        Method[] methods = getClass().getDeclaredMethods();
        Arrays.sort(methods, Comparator.comparing(Method::getName));
        for (Method method : methods) {
            if (method.getParameterCount() == 0 && method.getReturnType() == void.class) {
                heading = method.getName();
                quotes = 0;
                asked = 0;
                method.invoke(this);
                due.is(heading + ": quotes of one sentence", quotes, 1);
                due.is(heading + ": something was asked", asked > 0, true);
            }
        }
    }

    /** A sentence of a promise. */
    final void promise(int number, String words) {
        quote("Promise " + number, "Promise " + number, words);
    }

    /** A sentence of the terms, and the promises that speak of it. */
    final void term(String promises, String words) {
        quote("Terms", "Promise " + promises + ", Terms", words);
    }

    final void quote(String section, String name, String words) {
        heading = name + ": \"" + words + "\"";
        quotes++;
        due.is(heading + " stands in the document", document.quote(section, words), true);
    }

    final void is(String call, long got, long want) {
        asked++;
        due.is(heading + ": " + call, got, want);
    }

    final void is(String call, boolean got, boolean want) {
        is(call, got ? 1 : 0, want ? 1 : 0);
    }

    /** How far a run or a trial came, and where it stands. */
    final void stands(String name, FencedCode x, int who, int steps, int place) {
        is(name + ", steps", x.state(who, 0), steps);
        is(name + ", place", x.state(who, 1), place);
    }

    /** From address 48 to its end the code is just these instructions. */
    final void codeIs(String name, FencedCode x, int... instructions) {
        int at = 48;
        for (int bits : instructions) {
            is(name + ", at " + at, Due.bitsAt(x, at), bits);
            at += Due.size(bits);
        }
        is(name + ", length", x.peek(-1), at);
    }

    /** The bits of an instruction that there is. */
    static int e(int kind, int a, int b, int c) {
        int bits = new FencedCode().encode(kind, a, b, c);
        if (bits == BAD) {
            throw new IllegalStateException("no instruction " + kind + " " + a + " " + b + " " + c);
        }
        return bits;
    }

    /** LUI and ADDI that make register d this number. */
    static int[] loading(int d, int v) {
        int low = v << 20 >> 20;
        return new int[] {e(LUI, d, v - low >>> 12, 0), e(ADDI, d, d, low)};
    }

    /** Registers 5 and 6 get these numbers; then come the instructions, from address 64 on. */
    static FencedCode codeWith(int five, int six, int... instructions) {
        FencedCode x = Due.blank(128);
        Due.put(x, 48, loading(5, five));
        Due.put(x, 56, loading(6, six));
        Due.put(x, 64, instructions);
        return x;
    }

    static FencedCode built(int... lines) {
        FencedCode x = Due.lines(lines);
        if (x.build() < 0) {
            throw new IllegalStateException("does not build");
        }
        return x;
    }

    /** So many lines C.NOP: two bytes each. */
    static FencedCode halves(int n) {
        FencedCode x = new FencedCode();
        for (int i = 0; i < n; i++) {
            x.line(C_ADDI, 0, 0, 0);
        }
        return x;
    }

    /** So many lines LW: a bundle each. */
    static FencedCode bundles(int n) {
        FencedCode x = new FencedCode();
        for (int i = 0; i < n; i++) {
            x.line(LW, 1, 20, 0);
        }
        return x;
    }
}
