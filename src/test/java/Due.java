/** Compares answers with those that are due, and small helpers that several tests share. */
final class Due {
    static final int ADD = 0, SUB = 1, AND = 2, OR = 3, ADDI = 4, LUI = 5, LW = 6, SW = 7;
    static final int BEQ = 8, BNE = 9, BLT = 10, JAL = 11, JALR = 12, C_ADDI = 13, C_MV = 14;
    static final int CALL = 15, ADDRESS = 16;
    static final int READ = 0, WRITE = 1, EXIT = 2;

    private int wrong = 0;
    private int asked = 0;

    void is(String call, long got, long want) {
        asked++;
        if (got != want) {
            wrong++;
            if (wrong <= 50) {
                System.out.println(call + " answered " + got + ", due is " + want);
            }
        }
    }

    void is(String call, boolean got, boolean want) {
        is(call, got ? 1 : 0, want ? 1 : 0);
    }

    void end() {
        System.out.println(wrong == 0 ? asked + " answers are as due" : wrong + " answers are not as due");
        if (wrong != 0) {
            System.exit(1);
        }
    }

    /** Numbers with their widths in bits, from the highest bits on, as the document tells instructions. */
    static int fields(int... numbersAndWidths) {
        int bits = 0;
        for (int i = 0; i < numbersAndWidths.length; i += 2) {
            int width = numbersAndWidths[i + 1];
            bits = bits << width | numbersAndWidths[i] & (1 << width) - 1;
        }
        return bits;
    }

    static int size(int bits) {
        return (bits & 3) == 3 ? 4 : 2;
    }

    /** Pokes instructions from an address on; the address behind them. */
    static int put(FencedCode x, int at, int... instructions) {
        for (int bits : instructions) {
            for (int i = 0; i < size(bits); i++) {
                if (!x.poke(at + i, bits >>> 8 * i & 255)) {
                    throw new IllegalStateException("no byte " + (at + i));
                }
            }
            at += size(bits);
        }
        return at;
    }

    /** A code of n bytes that from address 48 on is all ADDI 0, 0, 0. */
    static FencedCode blank(int n) {
        FencedCode x = new FencedCode();
        x.length(n);
        for (int at = 48; at < n; at += 4) {
            put(x, at, 19);
        }
        return x;
    }

    /** A blank code of n bytes with these instructions from address 48 on. */
    static FencedCode code(int n, int... instructions) {
        FencedCode x = blank(n);
        put(x, 48, instructions);
        return x;
    }

    /** The bits that begin at an address of the code. */
    static int bitsAt(FencedCode x, int at) {
        int low = x.peek(at) | x.peek(at + 1) << 8;
        return (low & 3) != 3 ? low : low | x.peek(at + 2) << 16 | x.peek(at + 3) << 24;
    }

    /** Lines, four numbers each. */
    static FencedCode lines(int... numbers) {
        FencedCode x = new FencedCode();
        for (int i = 0; i < numbers.length; i += 4) {
            if (x.line(numbers[i], numbers[i + 1], numbers[i + 2], numbers[i + 3]) != i / 4 + 1) {
                throw new IllegalStateException("line " + i / 4);
            }
        }
        return x;
    }

    /** The same numbers each time that a test runs. */
    static final class Dice {
        private long seed;

        Dice(long seed) {
            this.seed = seed;
        }

        int bits() {
            seed = seed * 6364136223846793005L + 1442695040888963407L;
            return (int) (seed >>> 32);
        }

        int below(int n) {
            return Math.floorMod(bits() >>> 3, n);
        }

        int between(int low, int high) {
            return low + below(high - low + 1);
        }
    }
}
