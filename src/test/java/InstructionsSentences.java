/** Terms: INSTRUCTIONS, with the ranges of their numbers. */
final class InstructionsSentences extends Sentences {
    private static final int[] NO_REGISTERS = {LOW, -1, 32, HIGH};
    private static final int[] SHORTS = {-2048, -1, 0, 1, 31, 32, 2047};
    private static final int[] NO_SHORTS = {LOW, -2049, 2048, 4095, HIGH};

    InstructionsSentences(Document document, Due due) {
        super(document, due);
    }

    private void encodes(int kind, int a, int b, int c, int want) {
        FencedCode x = new FencedCode();
        is("encode(" + kind + ", " + a + ", " + b + ", " + c + ")", x.encode(kind, a, b, c), want);
        is("kind of it", x.kind(want), kind);
    }

    private void refuses(int kind, int a, int b, int c) {
        is("encode(" + kind + ", " + a + ", " + b + ", " + c + ")", new FencedCode().encode(kind, a, b, c), BAD);
    }

    private static int bit(int o, int n) {
        return o >> n & 1;
    }

    void lowestByteFirst() {
        term("2, 6, 13", "INSTRUCTIONS. As 32 bits, the lowest byte first in the code, from the highest bits on"
                + " (opcode, the lowest seven bits, and other fields as numbers;");
        FencedCode x = built(LUI, 2, 0x12345, 0);
        is("encode(5, 2, 74565, 0)", x.encode(LUI, 2, 0x12345, 0), 0x12345137);
        is("peek(48)", x.peek(48), 0x37);
        is("peek(49)", x.peek(49), 0x51);
        is("peek(50)", x.peek(50), 0x34);
        is("peek(51)", x.peek(51), 0x12);
        is("opcode", x.encode(LUI, 2, 0x12345, 0) & 127, 55);
        is("run(1)", x.run(1), 0);
        is("register 2", x.register(RUN, 2), 0x12345000);
    }

    void registersOfFiveBits() {
        term("2", "s, t, d are registers of five bits):");
        for (int kind = ADD; kind <= C_MV; kind++) {
            for (int r : NO_REGISTERS) {
                refuses(kind, r, 2, 2);
                if (kind != LUI && kind != JAL && kind != C_ADDI) {
                    refuses(kind, 2, r, 2);
                }
                if (kind <= OR) {
                    refuses(kind, 2, 2, r);
                }
            }
            is("31 in kind " + kind, new FencedCode().encode(kind, 31, kind == LUI ? 4 : 30, 30) != BAD, true);
        }
    }

    void threeRegisters() {
        term("2, 3", "0 ADD, 1 SUB, 2 AND, 3 OR d, s, t: seven bits 0 (32 for SUB), t, s, three bits 0 (7 for AND,"
                + " 6 for OR), d, 51.");
        int[] seven = {0, 32, 0, 0};
        int[] three = {0, 0, 7, 6};
        for (int kind = ADD; kind <= OR; kind++) {
            for (int r : new int[] {0, 1, 16, 31}) {
                encodes(kind, r, 0, 0, Due.fields(seven[kind], 7, 0, 10, three[kind], 3, r, 5, 51, 7));
                encodes(kind, 0, r, 0, Due.fields(seven[kind], 7, 0, 5, r, 5, three[kind], 3, 0, 5, 51, 7));
                encodes(kind, 0, 0, r, Due.fields(seven[kind], 7, r, 5, 0, 5, three[kind], 3, 0, 5, 51, 7));
            }
        }
        for (int n = 0; n < 128; n++) {
            is("kind with seven bits " + n, new FencedCode().kind(n << 25 | 51), n == 0 ? 0 : n == 32 ? 1 : BAD);
        }
        for (int n = 0; n < 8; n++) {
            is("SUB with three bits " + n, new FencedCode().kind(32 << 25 | n << 12 | 51), n == 0 ? 1 : BAD);
        }
        for (int s : new int[] {LOW, -77, 0, 5, HIGH}) {
            for (int t : new int[] {LOW, -1, 0, 6, HIGH}) {
                computes(ADD, s, t, s + t);
                computes(SUB, s, t, s - t);
                computes(AND, s, t, s & t);
                computes(OR, s, t, s | t);
            }
        }
    }

    /** Register 7 gets what is due, and so does a register that is also s, or t. */
    private void computes(int kind, int s, int t, int want) {
        for (int d = 5; d <= 7; d++) {
            FencedCode x = codeWith(s, t, e(kind, d, 5, 6));
            is("run(5)", x.run(5), 0);
            is("kind " + kind + " of " + s + ", " + t + " to " + d, x.register(RUN, d), want);
        }
    }

    void addNumber() {
        term("2, 3, 13", "4 ADDI d, s, i (i -2048 .. 2047, twelve bits): i, s, three bits 0, d, 19.");
        for (int i : SHORTS) {
            encodes(ADDI, 0, 31, i, Due.fields(i, 12, 31, 5, 0, 3, 0, 5, 19, 7));
            encodes(ADDI, 31, 0, i, Due.fields(i, 12, 0, 5, 0, 3, 31, 5, 19, 7));
            FencedCode x = Due.code(64, e(ADDI, 5, 0, i));
            is("run(1)", x.run(1), 0);
            is("register 5", x.register(RUN, 5), i);
        }
        for (int i : NO_SHORTS) {
            refuses(ADDI, 1, 2, i);
        }
    }

    void upperNumber() {
        term("2, 3, 13", "5 LUI d, i (twenty bits): i, d, 55; d becomes i * 4096.");
        for (int i : new int[] {0, 1, 524287, 524288, 1048575}) {
            encodes(LUI, 31, i, 0, Due.fields(i, 20, 31, 5, 55, 7));
            encodes(LUI, 0, i, 0, Due.fields(i, 20, 0, 5, 55, 7));
            FencedCode x = Due.code(64, e(ADDI, 5, 0, -1), e(LUI, 5, i, 0));
            is("run(2)", x.run(2), 0);
            is("register 5 in a run", x.register(RUN, 5), i * 4096);
            FencedCode y = built(ADDI, 5, 0, -1, LUI, 5, i, 0);
            is("trial(2)", y.trial(2), 0);
            is("register 5 in a trial", y.register(TRIAL, 5), i * 4096);
        }
        for (int i : new int[] {LOW, -1, 1048576, HIGH}) {
            refuses(LUI, 1, i, 0);
        }
    }

    void load() {
        term("2, 3, 13", "6 LW d, i(s): i, s, three bits 2, d, 3.");
        for (int i : SHORTS) {
            encodes(LW, 0, 31, i, Due.fields(i, 12, 31, 5, 2, 3, 0, 5, 3, 7));
            encodes(LW, 31, 0, i, Due.fields(i, 12, 0, 5, 2, 3, 31, 5, 3, 7));
            FencedCode x = codeWith(4128 - i, 4128, e(SW, 6, 6, 0), e(LW, 7, 5, i));
            is("run(6)", x.run(6), 0);
            is("LW by " + i, x.register(RUN, 7), 4128);
        }
        for (int i : NO_SHORTS) {
            refuses(LW, 1, 2, i);
        }
    }

    void store() {
        term("2, 3, 13", "7 SW t, i(s): the upper seven bits of i, t, s, three bits 2, the lower five of i, 35.");
        for (int i : SHORTS) {
            encodes(SW, 0, 31, i, Due.fields(i >> 5, 7, 0, 5, 31, 5, 2, 3, i, 5, 35, 7));
            encodes(SW, 31, 0, i, Due.fields(i >> 5, 7, 31, 5, 0, 5, 2, 3, i, 5, 35, 7));
            FencedCode x = codeWith(4128 - i, -9, e(SW, 6, 5, i));
            is("run(5)", x.run(5), 0);
            is("SW by " + i, x.word(RUN, 8), -9);
        }
        for (int i : NO_SHORTS) {
            refuses(SW, 1, 2, i);
        }
    }

    void branches() {
        term("2, 3, 13", "8 BEQ, 9 BNE, 10 BLT s, t, to (the address to is that of the instruction and o, o even,"
                + " thirteen bits, -4096 .. 4094): o's bits 12, 10 to 5, t, s, three bits 0 (1 for BNE, 4 for BLT),"
                + " o's bits 4 to 1, 11, 99.");
        int[] three = {0, 1, 4};
        for (int kind = BEQ; kind <= BLT; kind++) {
            for (int o : new int[] {-4096, -2048, -2, 0, 2, 30, 32, 1024, 2046, 2048, 4094}) {
                encodes(kind, 0, 31, o, Due.fields(bit(o, 12), 1, o >> 5, 6, 31, 5, 0, 5, three[kind - BEQ], 3,
                        o >> 1, 4, bit(o, 11), 1, 99, 7));
                encodes(kind, 31, 0, o, Due.fields(bit(o, 12), 1, o >> 5, 6, 0, 5, 31, 5, three[kind - BEQ], 3,
                        o >> 1, 4, bit(o, 11), 1, 99, 7));
                FencedCode x = codeWith(1, kind == BEQ ? 1 : 2, e(kind, 5, 6, o));
                is("run(5)", x.run(5), 0);
                stands("kind " + kind + " by " + o, x, RUN, 5, 64 + o);
            }
            for (int o : new int[] {LOW, -4098, -4097, -4095, -1, 1, 4093, 4095, 4096, HIGH, HIGH - 1}) {
                refuses(kind, 1, 2, o);
            }
        }
        for (int s : new int[] {LOW, -1, 0, 1, HIGH}) {
            for (int t : new int[] {LOW, -1, 0, 1, HIGH}) {
                branchesIf(BEQ, s, t, s == t);
                branchesIf(BNE, s, t, s != t);
                branchesIf(BLT, s, t, s < t);
            }
        }
    }

    private void branchesIf(int kind, int s, int t, boolean goes) {
        FencedCode x = codeWith(s, t, e(kind, 5, 6, -16));
        is("run(5)", x.run(5), 0);
        stands("kind " + kind + " of " + s + ", " + t, x, RUN, 5, goes ? 48 : 68);
    }

    void jump() {
        term("2, 3, 13", "11 JAL d, to (o even, 21 bits): o's bits 20, 10 to 1, 11, 19 to 12, d, 111;");
        for (int o : new int[] {-1048576, -4096, -2, 0, 2, 1024, 2046, 2048, 4096, 524288, 1048574}) {
            encodes(JAL, 31, o, 0, Due.fields(bit(o, 20), 1, o >> 1, 10, bit(o, 11), 1, o >> 12, 8, 31, 5, 111, 7));
            encodes(JAL, 0, o, 0, Due.fields(bit(o, 20), 1, o >> 1, 10, bit(o, 11), 1, o >> 12, 8, 0, 5, 111, 7));
            FencedCode x = Due.code(64, e(JAL, 0, o, 0));
            is("run(1)", x.run(1), 0);
            stands("by " + o, x, RUN, 1, 48 + o);
        }
        for (int o : new int[] {LOW, -1048578, -1048577, -1, 1, 1048573, 1048575, 1048576, HIGH, HIGH - 1}) {
            refuses(JAL, 1, o, 0);
        }
    }

    void jumpLinks() {
        term("13", "d becomes the address behind the instruction.");
        FencedCode x = Due.code(64, e(JAL, 31, 12, 0));
        is("run(1)", x.run(1), 0);
        is("register 31", x.register(RUN, 31), 52);
        FencedCode last = Due.blank(256);
        Due.put(last, 48, e(JAL, 0, 204, 0));
        Due.put(last, 252, e(JAL, 1, -204, 0));
        is("run(2)", last.run(2), 0);
        is("behind the last one", last.register(RUN, 1), 256);
        FencedCode half = Due.code(64, HALF_NOP, e(JAL, 1, 10, 0));
        is("run(2)", half.run(2), 0);
        is("behind one at 50", half.register(RUN, 1), 54);
    }

    void leap() {
        term("2, 3", "12 JALR d, s, i: i, s, three bits 0, d, 103;");
        for (int i : SHORTS) {
            encodes(JALR, 0, 31, i, Due.fields(i, 12, 31, 5, 0, 3, 0, 5, 103, 7));
            encodes(JALR, 31, 0, i, Due.fields(i, 12, 0, 5, 0, 3, 31, 5, 103, 7));
        }
        for (int i : NO_SHORTS) {
            refuses(JALR, 1, 2, i);
        }
    }

    void leapLeadsToAnEvenAddress() {
        term("13", "to s + i, its lowest bit 0; d likewise.");
        for (int i : new int[] {-2048, -2047, -1, 0, 1, 2, 3, 2046, 2047}) {
            for (int s : new int[] {80, 81}) {
                FencedCode x = codeWith(s, 0, e(JALR, 7, 5, i));
                is("run(5)", x.run(5), 0);
                stands("JALR by " + i, x, RUN, 5, s + i - Math.floorMod(s + i, 2));
                is("register 7", x.register(RUN, 7), 68);
            }
        }
        FencedCode same = codeWith(80, 0, e(JALR, 5, 5, 0));
        is("run(5)", same.run(5), 0);
        stands("d is s", same, RUN, 5, 80);
        is("d is s", same.register(RUN, 5), 68);
    }

    void shortAddNumber() {
        term("2, 3, 13", "As 16 bits: 13 C.ADDI d, i (d not 0, i -32 .. 31 but not 0; or both 0: C.NOP, which does"
                + " nothing): three bits 0, i's bit 5, d, i's bits 4 to 0, 1 (two bits).");
        for (int d : new int[] {1, 31}) {
            for (int i : new int[] {-32, -31, -1, 1, 30, 31}) {
                encodes(C_ADDI, d, i, 0, Due.fields(0, 3, bit(i, 5), 1, d, 5, i, 5, 1, 2));
                FencedCode x = Due.code(64, e(C_ADDI, d, i, 0), HALF_NOP);
                is("run(1)", x.run(1), 0);
                is("register " + d, x.register(RUN, d), i);
            }
            for (int i : new int[] {LOW, -33, 0, 32, HIGH}) {
                refuses(C_ADDI, d, i, 0);
            }
        }
        for (int i : new int[] {-32, -1, 1, 31}) {
            refuses(C_ADDI, 0, i, 0);
        }
        encodes(C_ADDI, 0, 0, 0, 1);
        FencedCode x = Due.code(64, HALF_NOP, HALF_NOP);
        x.run(0);
        int[] before = new int[32];
        for (int r = 0; r < 32; r++) {
            before[r] = x.register(RUN, r);
        }
        is("C.NOP", x.run(1), 0);
        stands("C.NOP", x, RUN, 1, 50);
        for (int r = 0; r < 32; r++) {
            is("C.NOP leaves register " + r, x.register(RUN, r), before[r]);
        }
    }

    void shortMove() {
        term("2, 3, 13", "14 C.MV d, t (neither 0): 8 (four bits), d, t, 2 (two bits).");
        for (int d : new int[] {1, 16, 30, 31}) {
            for (int t : new int[] {1, 16, 30, 31}) {
                encodes(C_MV, d, t, 0, Due.fields(8, 4, d, 5, t, 5, 2, 2));
                FencedCode x = Due.code(64, e(ADDI, t, 0, 55), e(C_MV, d, t, 0), HALF_NOP);
                is("run(2)", x.run(2), 0);
                is("register " + d, x.register(RUN, d), 55);
                is("register " + t, x.register(RUN, t), 55);
            }
            refuses(C_MV, d, 0, 0);
            refuses(C_MV, 0, d, 0);
        }
        refuses(C_MV, 0, 0, 0);
        refuses(C_MV, 32, 1, 0);
        refuses(C_MV, 1, 32, 0);
        refuses(C_MV, 1, -1, 0);
    }

    void sizes() {
        term("3, 11, 13", "Whatever has 3 in its two lowest bits is of 32 bits, else of 16;");
        FencedCode x = Due.code(64, e(C_MV, 5, 27, 0), e(C_ADDI, 6, 1, 0), e(ADDI, 7, 0, 1));
        int[] places = {48, 50, 52, 56};
        for (int n = 0; n <= 3; n++) {
            is("run(" + n + ")", x.run(n), 0);
            stands("run(" + n + ")", x, RUN, n, places[n]);
        }
        FencedCode wide = Due.code(64, HALF_NOP, 0x00000073, 0);
        is("illegal bits of 32 are looked at as 32", wide.check(), 50);
        FencedCode end = Due.blank(64);
        Due.put(end, 60, HALF_NOP, 0x8002 | 5 << 7 | 6 << 2);
        is("16 bits up to a bundle's end", end.check(), BAD);
        end.poke(62, end.peek(62) | 3);
        is("the same with 3 in the lowest bits", end.check(), 62);
    }

    void illegalOnes() {
        term("3, 11, 13", "what is none of all these is ILLEGAL.");
        int[] none = {0, 0x8002, 5 << 7 | 1, 4 << 2 | 1, 0x8002 | 5 << 7, 0x8002 | 6 << 2, 0x9002 | 5 << 7 | 6 << 2,
            0x2001 | 5 << 7 | 1 << 2, 2, 115, 3, 1 << 12 | 3, 35, 3 << 12 | 35, 1 << 12 | 19, 2 << 12 | 99,
            3 << 12 | 99, 5 << 12 | 99, 6 << 12 | 99, 7 << 12 | 99, 1 << 12 | 103, 1 << 25 | 51, 1 << 12 | 51,
            5 << 12 | 51, 23, 127, -1};
        for (int bits : none) {
            FencedCode x = Due.code(64, bits);
            is("kind(" + bits + ")", x.kind(bits), BAD);
            is("check() of " + bits, x.check(), 48);
            is("run(9) of " + bits, x.run(9), 3);
        }
    }
}
