/**
 * A fence for foreign machine code: a rewriter, a checker that knows nothing of it, a machine that
 * runs bytes, and the program as its writer meant it. The numbered promises stand in DOC.md.
 */
public final class FencedCode {
    public static final int BAD = -1;
    public static final int FULL = -2;

    private static final int ADD = 0;
    private static final int SUB = 1;
    private static final int AND = 2;
    private static final int OR = 3;
    private static final int ADDI = 4;
    private static final int LUI = 5;
    private static final int LW = 6;
    private static final int SW = 7;
    private static final int BEQ = 8;
    private static final int BNE = 9;
    private static final int BLT = 10;
    private static final int JAL = 11;
    private static final int JALR = 12;
    private static final int C_ADDI = 13;
    private static final int C_MV = 14;
    private static final int CALL = 15;
    private static final int ADDRESS = 16;

    private static final int REGISTERS = 32;
    private static final int TOP_REGISTER = 31;
    private static final int TOP_FREE_REGISTER = 26;
    private static final int LINK = 1;
    private static final int SERVICE_VALUE = 10;
    private static final int CODE_MASK = 27;
    private static final int DATA_BASE = 28;
    private static final int DATA_MASK = 29;
    private static final int FENCED = 31;

    private static final int BUNDLE = 16;
    private static final int CODE_BEGIN = 48;
    private static final int CODE_MOST = 256;
    private static final int CODE_MASK_VALUE = 240;
    private static final int DATA_BEGIN = 4096;
    private static final int DATA_MASK_VALUE = 60;
    private static final int DATA_WORDS = 16;
    private static final int LINES_MOST = 20;
    private static final int INPUTS_MOST = 20;
    private static final int OUTPUTS_MOST = 40;
    private static final int FUEL_MOST = 2000;

    private static final int READ_AT = 0;
    private static final int WRITE_AT = 16;
    private static final int EXIT_AT = 32;
    private static final int READ_SERVICE = 0;
    private static final int EXIT_SERVICE = 2;

    private static final int GOES_ON = 0;
    private static final int EXIT = 1;
    private static final int NOWHERE = 2;
    private static final int ILLEGAL = 3;
    private static final int OUTSIDE = 4;
    private static final int LEFT = 5;

    private final Program written;
    private final Program built;
    private final Rewriter rewriter;
    private final Code code;
    private final Checker checker;
    private final Inputs inputs;
    private final Machine machine;
    private final Trial meant;
    private boolean everBuilt;

    public FencedCode() {
        written = new Program();
        built = new Program();
        code = new Code();
        rewriter = new Rewriter(built, code);
        checker = new Checker(code);
        inputs = new Inputs();
        machine = new Machine(code, inputs);
        meant = new Trial(built, inputs);
        everBuilt = false;
    }

    public int encode(int kind, int a, int b, int c) {
        return Format.encodable(kind, a, b, c) ? Format.pack(kind, a, b, c) : BAD;
    }

    public int kind(int bits) {
        return Format.kindOf(bits);
    }

    public int line(int kind, int a, int b, int c) {
        if (!Program.allows(kind, a, b, c)) {
            return BAD;
        }
        return written.add(kind, a, b, c) ? written.count : FULL;
    }

    public int clear() {
        int were = written.count;
        written.count = 0;
        return were;
    }

    public int build() {
        if (!written.targetsExist()) {
            return BAD;
        }
        if (Layout.place(written) > CODE_MOST) {
            return FULL;
        }
        built.copyFrom(written);
        everBuilt = true;
        rewriter.writeAll();
        return code.count;
    }

    public int address(int target) {
        return everBuilt ? built.addressOf(target) : BAD;
    }

    public boolean length(int n) {
        return code.resize(n);
    }

    public boolean poke(int i, int b) {
        return code.put(i, b);
    }

    public int peek(int i) {
        return i == -1 ? code.count : code.byteAt(i);
    }

    public int check() {
        return checker.firstWrong();
    }

    public int input(int v) {
        return inputs.add(v) ? inputs.count : FULL;
    }

    public int run(int fuel) {
        return within(fuel, 0, FUEL_MOST) ? machine.go(fuel) : BAD;
    }

    public int trial(int fuel) {
        return within(fuel, 0, FUEL_MOST) ? meant.go(fuel) : BAD;
    }

    public int state(int who, int what) {
        Runner runner = runnerOf(who);
        if (runner == null) {
            return BAD;
        }
        switch (what) {
            case 0:
                return runner.steps;
            case 1:
                return runner.place;
            case 2:
                return runner.outputCount;
            default:
                return BAD;
        }
    }

    public int output(int who, int i) {
        Runner runner = runnerOf(who);
        return runner == null ? 0 : runner.outputAt(i);
    }

    public int register(int who, int r) {
        Runner runner = runnerOf(who);
        return runner == null ? 0 : runner.get(r);
    }

    public int word(int who, int w) {
        Runner runner = runnerOf(who);
        return runner == null ? 0 : runner.wordAt(w);
    }

    private Runner runnerOf(int who) {
        if (who == 0) {
            return machine;
        }
        return who == 1 ? meant : null;
    }

    private static boolean within(int v, int low, int high) {
        return v >= low && v <= high;
    }

    /** Instructions as bits and bits as instructions; a, b, c are what encode takes. */
    private static final class Format {
        static final int UPPER_MOST = 1048575;

        static boolean encodable(int kind, int a, int b, int c) {
            switch (kind) {
                case BEQ:
                case BNE:
                case BLT:
                    return within(a, 0, TOP_REGISTER) && within(b, 0, TOP_REGISTER)
                            && within(c, -4096, 4094) && (c & 1) == 0;
                case JAL:
                    return within(a, 0, TOP_REGISTER) && within(b, -1048576, 1048574) && (b & 1) == 0;
                case JALR:
                    return within(a, 0, TOP_REGISTER) && within(b, 0, TOP_REGISTER) && isShort(c);
                default:
                    return plainFits(kind, a, b, c, TOP_REGISTER);
            }
        }

        /** The kinds whose numbers have one range for encode and for lines, but for the top register. */
        static boolean plainFits(int kind, int a, int b, int c, int top) {
            switch (kind) {
                case ADD:
                case SUB:
                case AND:
                case OR:
                    return within(a, 0, top) && within(b, 0, top) && within(c, 0, top);
                case ADDI:
                case LW:
                case SW:
                    return within(a, 0, top) && within(b, 0, top) && isShort(c);
                case LUI:
                    return within(a, 0, top) && within(b, 0, UPPER_MOST);
                case C_ADDI:
                    return within(a, 0, top) && within(b, -32, 31) && (a == 0) == (b == 0);
                case C_MV:
                    return within(a, 1, top) && within(b, 1, top);
                default:
                    return false;
            }
        }

        private static boolean isShort(int i) {
            return within(i, -2048, 2047);
        }

        /** The bits of an instruction whose numbers are in their ranges. */
        static int pack(int kind, int a, int b, int c) {
            switch (kind) {
                case ADD:
                    return threeRegisters(0, 0, a, b, c);
                case SUB:
                    return threeRegisters(32, 0, a, b, c);
                case AND:
                    return threeRegisters(0, 7, a, b, c);
                case OR:
                    return threeRegisters(0, 6, a, b, c);
                case ADDI:
                    return withShort(0, 19, a, b, c);
                case LUI:
                    return b << 12 | a << 7 | 55;
                case LW:
                    return withShort(2, 3, a, b, c);
                case SW:
                    return (c >> 5) << 25 | a << 20 | b << 15 | 2 << 12 | (c & 31) << 7 | 35;
                case BEQ:
                    return branch(0, a, b, c);
                case BNE:
                    return branch(1, a, b, c);
                case BLT:
                    return branch(4, a, b, c);
                case JAL:
                    return jump(a, b);
                case JALR:
                    return withShort(0, 103, a, b, c);
                case C_ADDI:
                    return (b >> 5 & 1) << 12 | a << 7 | (b & 31) << 2 | 1;
                case C_MV:
                    return 8 << 12 | a << 7 | b << 2 | 2;
                default:
                    return BAD;
            }
        }

        private static int threeRegisters(int seven, int three, int d, int s, int t) {
            return seven << 25 | t << 20 | s << 15 | three << 12 | d << 7 | 51;
        }

        private static int withShort(int three, int opcode, int d, int s, int i) {
            return i << 20 | s << 15 | three << 12 | d << 7 | opcode;
        }

        private static int branch(int three, int s, int t, int o) {
            int upper = (o >> 12 & 1) << 6 | o >> 5 & 63;
            int lower = (o >> 1 & 15) << 1 | o >> 11 & 1;
            return upper << 25 | t << 20 | s << 15 | three << 12 | lower << 7 | 99;
        }

        private static int jump(int d, int o) {
            int upper = (o >> 20 & 1) << 11 | (o >> 1 & 1023) << 1 | o >> 11 & 1;
            return upper << 20 | (o >> 12 & 255) << 12 | d << 7 | 111;
        }

        static boolean isLong(int bits) {
            return (bits & 3) == 3;
        }

        static int sizeOf(int bits) {
            return isLong(bits) ? 4 : 2;
        }

        static int kindOf(int bits) {
            if (!isLong(bits)) {
                return shortKindOf(bits);
            }
            int three = bits >>> 12 & 7;
            switch (bits & 127) {
                case 51:
                    return arithmeticKindOf(bits >>> 25, three);
                case 19:
                    return three == 0 ? ADDI : BAD;
                case 55:
                    return LUI;
                case 3:
                    return three == 2 ? LW : BAD;
                case 35:
                    return three == 2 ? SW : BAD;
                case 99:
                    return branchKindOf(three);
                case 111:
                    return JAL;
                case 103:
                    return three == 0 ? JALR : BAD;
                default:
                    return BAD;
            }
        }

        private static int arithmeticKindOf(int seven, int three) {
            if (seven == 32) {
                return three == 0 ? SUB : BAD;
            }
            if (seven != 0) {
                return BAD;
            }
            switch (three) {
                case 0:
                    return ADD;
                case 7:
                    return AND;
                case 6:
                    return OR;
                default:
                    return BAD;
            }
        }

        private static int branchKindOf(int three) {
            switch (three) {
                case 0:
                    return BEQ;
                case 1:
                    return BNE;
                case 4:
                    return BLT;
                default:
                    return BAD;
            }
        }

        private static int shortKindOf(int bits) {
            boolean noD = (bits & 0x0F80) == 0;
            boolean noT = (bits & 0x007C) == 0;
            if ((bits & 0xE003) == 1) {
                boolean noNumber = noT && (bits & 0x1000) == 0;
                return noD == noNumber ? C_ADDI : BAD;
            }
            boolean isMove = (bits & 0xF003) == 0x8002;
            return isMove && !noD && !noT ? C_MV : BAD;
        }

        private static int lowRegister(int bits) {
            return bits >>> 7 & 31;
        }

        private static int middleRegister(int bits) {
            return bits >>> 15 & 31;
        }

        private static int highRegister(int bits) {
            return bits >>> 20 & 31;
        }

        private static int shortRegister(int bits) {
            return bits >>> 2 & 31;
        }

        private static int shortNumber(int bits) {
            int low = bits >>> 2 & 31;
            return (bits & 4096) == 0 ? low : low - 32;
        }

        private static int branchOffset(int bits) {
            return (bits >> 31) << 12 | (bits >>> 7 & 1) << 11 | (bits >>> 25 & 63) << 5
                    | (bits >>> 8 & 15) << 1;
        }

        private static int jumpOffset(int bits) {
            return (bits >> 31) << 20 | (bits >>> 12 & 255) << 12 | (bits >>> 20 & 1) << 11
                    | (bits >>> 21 & 1023) << 1;
        }

        static int firstOf(int kind, int bits) {
            switch (kind) {
                case SW:
                    return highRegister(bits);
                case BEQ:
                case BNE:
                case BLT:
                    return middleRegister(bits);
                default:
                    return lowRegister(bits);
            }
        }

        static int secondOf(int kind, int bits) {
            switch (kind) {
                case LUI:
                    return bits >>> 12;
                case BEQ:
                case BNE:
                case BLT:
                    return highRegister(bits);
                case JAL:
                    return jumpOffset(bits);
                case C_ADDI:
                    return shortNumber(bits);
                case C_MV:
                    return shortRegister(bits);
                default:
                    return middleRegister(bits);
            }
        }

        static int thirdOf(int kind, int bits) {
            switch (kind) {
                case ADD:
                case SUB:
                case AND:
                case OR:
                    return highRegister(bits);
                case ADDI:
                case LW:
                case JALR:
                    return bits >> 20;
                case SW:
                    return (bits >> 25) << 5 | lowRegister(bits);
                case BEQ:
                case BNE:
                case BLT:
                    return branchOffset(bits);
                default:
                    return 0;
            }
        }
    }

    /** A row of lines, and where the latest layout put them. */
    private static final class Program {
        private final int[] kinds = new int[LINES_MOST];
        private final int[] as = new int[LINES_MOST];
        private final int[] bs = new int[LINES_MOST];
        private final int[] cs = new int[LINES_MOST];
        /** Before a line's own padding: where a jump to it leads. */
        private final int[] addresses = new int[LINES_MOST + 1];
        /** Behind a line's own padding. */
        private final int[] starts = new int[LINES_MOST];
        int count = 0;
        int codeEnd = 0;

        static boolean allows(int kind, int a, int b, int c) {
            switch (kind) {
                case BEQ:
                case BNE:
                case BLT:
                    return isFree(a) && isFree(b) && mayBeTarget(c);
                case JAL:
                case ADDRESS:
                    return isFree(a) && mayBeTarget(b);
                case JALR:
                    return isFree(a) && isFree(b);
                case CALL:
                    return within(a, READ_SERVICE, EXIT_SERVICE);
                default:
                    return Format.plainFits(kind, a, b, c, TOP_FREE_REGISTER);
            }
        }

        private static boolean isFree(int r) {
            return within(r, 0, TOP_FREE_REGISTER);
        }

        private static boolean mayBeTarget(int target) {
            return within(target, 0, LINES_MOST);
        }

        boolean add(int kind, int a, int b, int c) {
            if (!has(count, LINES_MOST)) {
                return false;
            }
            kinds[count] = kind;
            as[count] = a;
            bs[count] = b;
            cs[count] = c;
            count++;
            return true;
        }

        private static boolean has(int n, int count) {
            return n >= 0 && n < count && n < LINES_MOST;
        }

        int kindAt(int n) {
            return has(n, count) ? kinds[n] : BAD;
        }

        int firstAt(int n) {
            return has(n, count) ? as[n] : 0;
        }

        int secondAt(int n) {
            return has(n, count) ? bs[n] : 0;
        }

        int thirdAt(int n) {
            return has(n, count) ? cs[n] : 0;
        }

        int startAt(int n) {
            return has(n, count) ? starts[n] : BAD;
        }

        void placeTarget(int target, int at) {
            if (within(target, 0, LINES_MOST)) {
                addresses[target] = at;
            }
        }

        void placeLine(int n, int at) {
            if (has(n, LINES_MOST)) {
                starts[n] = at;
            }
        }

        int addressOf(int target) {
            return within(target, 0, Math.min(count, LINES_MOST)) ? addresses[target] : BAD;
        }

        /** The target that a line names; 0, which is always one, if it names none. */
        private int targetOf(int n) {
            switch (kindAt(n)) {
                case BEQ:
                case BNE:
                case BLT:
                    return thirdAt(n);
                case JAL:
                case ADDRESS:
                    return secondAt(n);
                default:
                    return 0;
            }
        }

        boolean targetsExist() {
            for (int n = 0; n < count; n++) {
                if (targetOf(n) > count) {
                    return false;
                }
            }
            return true;
        }

        boolean isAddressTaken(int target) {
            for (int n = 0; n < count; n++) {
                if (kindAt(n) == ADDRESS && secondAt(n) == target) {
                    return true;
                }
            }
            return false;
        }

        /** The target that begins a bundle at this address; BAD if none does. */
        int bundleTargetAt(int address) {
            if (address % BUNDLE != 0) {
                return BAD;
            }
            for (int target = 0; target <= count; target++) {
                if (addressOf(target) == address) {
                    return target;
                }
            }
            return BAD;
        }

        void copyFrom(Program other) {
            System.arraycopy(other.kinds, 0, kinds, 0, LINES_MOST);
            System.arraycopy(other.as, 0, as, 0, LINES_MOST);
            System.arraycopy(other.bs, 0, bs, 0, LINES_MOST);
            System.arraycopy(other.cs, 0, cs, 0, LINES_MOST);
            System.arraycopy(other.addresses, 0, addresses, 0, LINES_MOST + 1);
            System.arraycopy(other.starts, 0, starts, 0, LINES_MOST);
            count = other.count;
            codeEnd = other.codeEnd;
        }
    }

    /** Gives each line of a program its place, before a byte is written. */
    private static final class Layout {
        /** How many bytes the code would have. */
        static int place(Program program) {
            int at = CODE_BEGIN;
            for (int n = 0; n < program.count; n++) {
                at = targetPlace(program, n, at);
                program.placeTarget(n, at);
                at = linePlace(program, n, at);
                program.placeLine(n, at);
                at += bytesOf(program.kindAt(n));
            }
            at = targetPlace(program, program.count, at);
            program.placeTarget(program.count, at);
            program.codeEnd = at - at % BUNDLE + BUNDLE;
            return program.codeEnd;
        }

        private static int targetPlace(Program program, int target, int at) {
            return program.isAddressTaken(target) ? nextWith(0, at) : at;
        }

        private static int linePlace(Program program, int n, int at) {
            int size = bytesOf(program.kindAt(n));
            if (endsBundle(program.kindAt(n), program.firstAt(n))) {
                return nextWith(BUNDLE - size, at);
            }
            return at % BUNDLE + size > BUNDLE ? nextWith(0, at) : at;
        }

        /** What comes back by an address that is masked to a bundle's beginning must leave at its end. */
        private static boolean endsBundle(int kind, int first) {
            return kind == CALL || (kind == JAL || kind == JALR) && first != 0;
        }

        /** The first address from at on that is so far into its bundle. */
        private static int nextWith(int into, int at) {
            int here = at - at % BUNDLE + into;
            return here >= at ? here : here + BUNDLE;
        }

        private static int bytesOf(int kind) {
            switch (kind) {
                case LW:
                case SW:
                    return 16;
                case JALR:
                    return 8;
                case C_ADDI:
                case C_MV:
                    return 2;
                default:
                    return 4;
            }
        }
    }

    /** Writes a program that has its layout as bytes. */
    private static final class Rewriter {
        private final Program program;
        private final Code code;
        private int at = CODE_BEGIN;

        Rewriter(Program program, Code code) {
            this.program = program;
            this.code = code;
        }

        void writeAll() {
            code.resize(0);
            code.resize(program.codeEnd);
            at = CODE_BEGIN;
            for (int n = 0; n < program.count; n++) {
                pad(program.addressOf(n));
                pad(program.startAt(n));
                writeLine(program.kindAt(n), program.firstAt(n), program.secondAt(n), program.thirdAt(n));
            }
            pad(program.addressOf(program.count));
            pad(program.codeEnd);
        }

        private void pad(int end) {
            int bytes = end - at;
            if (bytes % 4 != 0) {
                write(C_ADDI, 0, 0, 0);
            }
            for (int words = bytes / 4; words > 0; words--) {
                write(ADDI, 0, 0, 0);
            }
        }

        private void writeLine(int kind, int a, int b, int c) {
            switch (kind) {
                case LW:
                case SW:
                    write(ADDI, FENCED, b, c);
                    write(AND, FENCED, FENCED, DATA_MASK);
                    write(OR, FENCED, FENCED, DATA_BASE);
                    write(kind, a, FENCED, 0);
                    break;
                case BEQ:
                case BNE:
                case BLT:
                    write(kind, a, b, program.addressOf(c) - at);
                    break;
                case JAL:
                    write(JAL, a, program.addressOf(b) - at, 0);
                    break;
                case JALR:
                    write(AND, FENCED, b, CODE_MASK);
                    write(JALR, a, FENCED, 0);
                    break;
                case CALL:
                    write(JAL, LINK, a * BUNDLE - at, 0);
                    break;
                case ADDRESS:
                    write(ADDI, a, 0, program.addressOf(b));
                    break;
                default:
                    write(kind, a, b, c);
                    break;
            }
        }

        private void write(int kind, int a, int b, int c) {
            int bits = Format.pack(kind, a, b, c);
            int size = Format.sizeOf(bits);
            for (int i = 0; i < size; i++) {
                code.put(at + i, bits >>> 8 * i & 255);
            }
            at += size;
        }
    }

    /** A row of bytes; those that it does not have are kept 0, so that it grows by zeros. */
    private static final class Code {
        private final int[] bytes = new int[CODE_MOST];
        int count = 0;

        private boolean has(int i) {
            return i >= 0 && i < count && i < CODE_MOST;
        }

        boolean resize(int n) {
            if (!within(n, 0, CODE_MOST)) {
                return false;
            }
            for (int i = n; i < CODE_MOST; i++) {
                bytes[i] = 0;
            }
            count = n;
            return true;
        }

        boolean put(int i, int b) {
            if (!has(i) || !within(b, 0, 255)) {
                return false;
            }
            bytes[i] = b;
            return true;
        }

        int byteAt(int i) {
            return has(i) ? bytes[i] : BAD;
        }

        /** The bits of the instruction at i; 0, which is illegal, if it goes over the code's end. */
        int fetch(int i) {
            if (!has(i) || !has(i + 1)) {
                return 0;
            }
            int low = bytes[i] | bytes[i + 1] << 8;
            if (!Format.isLong(low)) {
                return low;
            }
            if (!has(i + 2) || !has(i + 3)) {
                return 0;
            }
            return low | bytes[i + 2] << 16 | bytes[i + 3] << 24;
        }
    }

    /** Judges bytes alone: it has nothing of the rewriter and of its programs. */
    private static final class Checker {
        /** All bits of AND but those of its s. */
        private static final int BUT_S = ~(31 << 15);

        private final Code code;
        private final int dataMasked = Format.pack(AND, FENCED, FENCED, DATA_MASK);
        private final int dataBased = Format.pack(OR, FENCED, FENCED, DATA_BASE);
        private final int codeMasked = Format.pack(AND, FENCED, 0, CODE_MASK);
        /** The instruction that begins at an address; 0, which is none, where none does. */
        private final int[] begun = new int[CODE_MOST];

        Checker(Code code) {
            this.code = code;
        }

        int firstWrong() {
            if (code.count <= CODE_BEGIN || code.count % BUNDLE != 0) {
                return CODE_BEGIN;
            }
            int broken = firstBroken();
            return broken != BAD ? broken : firstUnsafe();
        }

        private int firstBroken() {
            int next = CODE_BEGIN;
            for (int at = CODE_BEGIN; at < code.count && at < CODE_MOST; at += 2) {
                int bits = at == next ? code.fetch(at) : 0;
                begun[at] = bits;
                if (at == next) {
                    next = at + Format.sizeOf(bits);
                    if (Format.kindOf(bits) == BAD || at % BUNDLE + Format.sizeOf(bits) > BUNDLE) {
                        return at;
                    }
                }
            }
            return BAD;
        }

        private int firstUnsafe() {
            for (int at = CODE_BEGIN; at < code.count; at += 2) {
                if (begunAt(at) != 0 && !isSafe(at, begunAt(at))) {
                    return at;
                }
            }
            return BAD;
        }

        private int begunAt(int at) {
            boolean isPlace = at >= CODE_BEGIN && at < code.count && at < CODE_MOST && at % 2 == 0;
            return isPlace ? begun[at] : 0;
        }

        /** The instruction that begins so many bytes before, in the same bundle. */
        private int before(int at, int bytes) {
            return at % BUNDLE >= bytes ? begunAt(at - bytes) : 0;
        }

        private boolean isSafe(int at, int bits) {
            int kind = Format.kindOf(bits);
            int a = Format.firstOf(kind, bits);
            int b = Format.secondOf(kind, bits);
            int c = Format.thirdOf(kind, bits);
            switch (kind) {
                case LW:
                    return a <= TOP_FREE_REGISTER && b == FENCED && c == 0 && isDataFenced(at);
                case SW:
                    return b == FENCED && c == 0 && isDataFenced(at);
                case BEQ:
                case BNE:
                case BLT:
                    return mayLeadTo(at + c);
                case JAL:
                    return a <= TOP_FREE_REGISTER && mayLeadTo(at + b);
                case JALR:
                    return a <= TOP_FREE_REGISTER && b == FENCED && c == 0 && isCodeMask(before(at, 4));
                default:
                    return a <= TOP_FREE_REGISTER || mayChangeReserved(kind, a, bits);
            }
        }

        private boolean mayChangeReserved(int kind, int d, int bits) {
            return kind == ADDI && d == FENCED || bits == dataMasked || bits == dataBased || isCodeMask(bits);
        }

        private boolean isDataFenced(int at) {
            return before(at, 8) == dataMasked && before(at, 4) == dataBased;
        }

        private boolean isCodeMask(int bits) {
            return (bits & BUT_S) == codeMasked;
        }

        /** What stands behind a mask is reached through that mask alone. */
        private boolean mayLeadTo(int address) {
            if (address == READ_AT || address == WRITE_AT || address == EXIT_AT) {
                return true;
            }
            int bits = begunAt(address);
            int kind = Format.kindOf(bits);
            return bits != 0 && bits != dataBased && kind != LW && kind != SW && kind != JALR;
        }
    }

    private static final class Inputs {
        private final int[] values = new int[INPUTS_MOST];
        int count = 0;

        boolean add(int v) {
            if (count < 0 || count >= INPUTS_MOST) {
                return false;
            }
            values[count] = v;
            count++;
            return true;
        }

        int valueAt(int i) {
            return i >= 0 && i < count && i < INPUTS_MOST ? values[i] : -1;
        }
    }

    /** What a run and a trial have alike: registers, data, output, steps, and what plain kinds do. */
    private abstract static class Runner {
        private final Inputs inputs;
        private final int[] registers = new int[REGISTERS];
        private final int[] data = new int[DATA_WORDS];
        private final int[] outputs = new int[OUTPUTS_MOST];
        private int inputsRead = 0;
        int outputCount = 0;
        int steps = 0;
        /** An address of the code, or a line's number. */
        int place = 0;

        Runner(Inputs inputs) {
            this.inputs = inputs;
        }

        abstract void begin();

        /** One step from place on: GOES_ON, or how it ended. */
        abstract int step();

        int go(int fuel) {
            forgetAll();
            begin();
            for (int left = fuel; left > 0; left--) {
                int end = step();
                if (end == GOES_ON || end == EXIT) {
                    steps++;
                }
                if (end != GOES_ON) {
                    return end;
                }
            }
            return GOES_ON;
        }

        private void forgetAll() {
            for (int r = 0; r < REGISTERS; r++) {
                registers[r] = 0;
            }
            for (int w = 0; w < DATA_WORDS; w++) {
                data[w] = 0;
            }
            inputsRead = 0;
            outputCount = 0;
            steps = 0;
        }

        int get(int r) {
            return r >= 0 && r < REGISTERS ? registers[r] : 0;
        }

        void set(int r, int v) {
            if (r > 0 && r < REGISTERS) {
                registers[r] = v;
            }
        }

        int wordAt(int w) {
            return w >= 0 && w < DATA_WORDS ? data[w] : 0;
        }

        int outputAt(int i) {
            return i >= 0 && i < outputCount && i < OUTPUTS_MOST ? outputs[i] : 0;
        }

        void readInput() {
            set(SERVICE_VALUE, inputs.valueAt(inputsRead));
            if (inputsRead < INPUTS_MOST) {
                inputsRead++;
            }
        }

        void writeOutput() {
            if (outputCount >= 0 && outputCount < OUTPUTS_MOST) {
                outputs[outputCount] = get(SERVICE_VALUE);
                outputCount++;
            }
        }

        /** The kinds that change a register by registers and numbers alone. */
        void compute(int kind, int a, int b, int c) {
            switch (kind) {
                case ADD:
                    set(a, get(b) + get(c));
                    break;
                case SUB:
                    set(a, get(b) - get(c));
                    break;
                case AND:
                    set(a, get(b) & get(c));
                    break;
                case OR:
                    set(a, get(b) | get(c));
                    break;
                case ADDI:
                    set(a, get(b) + c);
                    break;
                case LUI:
                    set(a, b << 12);
                    break;
                case C_ADDI:
                    set(a, get(a) + b);
                    break;
                case C_MV:
                    set(a, get(b));
                    break;
                default:
                    break;
            }
        }

        boolean branches(int kind, int a, int b) {
            switch (kind) {
                case BEQ:
                    return get(a) == get(b);
                case BNE:
                    return get(a) != get(b);
                default:
                    return get(a) < get(b);
            }
        }

        /** LW and SW; false, with nothing changed, when the address is none of a word of data. */
        boolean moves(int kind, int a, int b, int c) {
            int from = get(b) + c - DATA_BEGIN;
            if (from < 0 || from >= DATA_WORDS * 4 || from % 4 != 0) {
                return false;
            }
            if (kind == LW) {
                set(a, data[from / 4]);
            } else {
                data[from / 4] = get(a);
            }
            return true;
        }
    }

    private static final class Machine extends Runner {
        private final Code code;

        Machine(Code code, Inputs inputs) {
            super(inputs);
            this.code = code;
        }

        void begin() {
            set(CODE_MASK, CODE_MASK_VALUE);
            set(DATA_BASE, DATA_BEGIN);
            set(DATA_MASK, DATA_MASK_VALUE);
            place = CODE_BEGIN;
        }

        int step() {
            switch (place) {
                case READ_AT:
                    readInput();
                    comeBack();
                    return GOES_ON;
                case WRITE_AT:
                    writeOutput();
                    comeBack();
                    return GOES_ON;
                case EXIT_AT:
                    return EXIT;
                default:
                    return stepInCode(place);
            }
        }

        private void comeBack() {
            place = get(LINK) & CODE_MASK_VALUE;
        }

        private int stepInCode(int at) {
            if (at < CODE_BEGIN || at >= code.count || at % 2 != 0) {
                return NOWHERE;
            }
            int bits = code.fetch(at);
            int kind = Format.kindOf(bits);
            if (kind == BAD) {
                return ILLEGAL;
            }
            int a = Format.firstOf(kind, bits);
            int b = Format.secondOf(kind, bits);
            int c = Format.thirdOf(kind, bits);
            int next = at + Format.sizeOf(bits);
            switch (kind) {
                case LW:
                case SW:
                    if (!moves(kind, a, b, c)) {
                        return OUTSIDE;
                    }
                    place = next;
                    break;
                case BEQ:
                case BNE:
                case BLT:
                    place = branches(kind, a, b) ? at + c : next;
                    break;
                case JAL:
                    place = at + b;
                    set(a, next);
                    break;
                case JALR:
                    // Before d is set: d and s may be the same register.
                    place = get(b) + c & ~1;
                    set(a, next);
                    break;
                default:
                    compute(kind, a, b, c);
                    place = next;
                    break;
            }
            return GOES_ON;
        }
    }

    /** The program as its writer meant it: lines, no bytes, no masks. */
    private static final class Trial extends Runner {
        private final Program program;

        Trial(Program program, Inputs inputs) {
            super(inputs);
            this.program = program;
        }

        void begin() {
            place = 0;
        }

        int step() {
            if (place < 0 || place >= program.count) {
                return NOWHERE;
            }
            int kind = program.kindAt(place);
            int a = program.firstAt(place);
            int b = program.secondAt(place);
            int c = program.thirdAt(place);
            int next = place + 1;
            switch (kind) {
                case LW:
                case SW:
                    if (!moves(kind, a, b, c)) {
                        return OUTSIDE;
                    }
                    place = next;
                    break;
                case BEQ:
                case BNE:
                case BLT:
                    place = branches(kind, a, b) ? c : next;
                    break;
                case JAL:
                    set(a, program.addressOf(next));
                    place = b;
                    break;
                case JALR:
                    return leap(a, get(b), program.addressOf(next));
                case CALL:
                    set(LINK, program.addressOf(next));
                    return serve(a, next);
                case ADDRESS:
                    set(a, program.addressOf(b));
                    place = next;
                    break;
                default:
                    compute(kind, a, b, c);
                    place = next;
                    break;
            }
            return GOES_ON;
        }

        /** A leap that leaves the program is no step: d keeps what it has. */
        private int leap(int d, int address, int back) {
            int to = program.bundleTargetAt(address);
            if (to == BAD) {
                return LEFT;
            }
            set(d, back);
            place = to;
            return GOES_ON;
        }

        private int serve(int service, int next) {
            if (service == EXIT_SERVICE) {
                return EXIT;
            }
            if (service == READ_SERVICE) {
                readInput();
            } else {
                writeOutput();
            }
            place = next;
            return GOES_ON;
        }
    }
}
