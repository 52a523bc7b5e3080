/** Promises 1 to 10: a new object, encode, kind, line, clear, build, address, length, poke, peek. */
final class WritingSentences extends Sentences {
    WritingSentences(Document document, Due due) {
        super(document, due);
    }

    void newObject() {
        promise(1, "No lines, no code, no input.");
        is("clear()", new FencedCode().clear(), 0);
        is("line", new FencedCode().line(C_ADDI, 0, 0, 0), 1);
        is("peek(-1)", new FencedCode().peek(-1), 0);
        is("peek(0)", new FencedCode().peek(0), BAD);
        is("check()", new FencedCode().check(), 48);
        is("input(5)", new FencedCode().input(5), 1);
        is("address(0)", new FencedCode().address(0), BAD);
        is("trial(1)", new FencedCode().trial(1), 2);
        is("run(1)", new FencedCode().run(1), 2);
        FencedCode read = Due.code(64, e(JAL, 1, -48, 0));
        read.run(2);
        is("READ", read.register(RUN, 10), -1);
        Due.lines(C_ADDI, 0, 0, 0).input(4);
        is("another object has nothing of it", new FencedCode().clear(), 0);
    }

    void encodeAnswersNumbers() {
        promise(2, "An instruction of kind 0 .. 14 as a number (16 bits: 0 .. 65535):");
        FencedCode x = new FencedCode();
        is("the lowest kind", x.encode(ADD, 0, 0, 0), 51);
        is("the highest kind", x.encode(C_MV, 31, 31, 0), 0x8000 | 31 << 7 | 31 << 2 | 2);
        for (int d = 1; d <= 31; d++) {
            for (int i = 1; i <= 31; i++) {
                int move = x.encode(C_MV, d, i, 0);
                is("C.MV " + d + ", " + i, move >= 0 && move <= 65535, true);
                int add = x.encode(C_ADDI, d, -i, 0);
                is("C.ADDI " + d + ", -" + i, add >= 0 && add <= 65535, true);
            }
        }
        is("a number below 0", x.encode(ADDI, 5, 6, -1), -851309);
    }

    void encodeTakesOffsets() {
        promise(2, "a, b, c as told of the lines, but for 8 to 11 the offset o in place of the target, and 12 with i as"
                + " c.");
        FencedCode x = new FencedCode();
        for (int kind = BEQ; kind <= BLT; kind++) {
            is("kind " + kind + " by -4096", x.encode(kind, 1, 2, -4096) != BAD, true);
            is("kind " + kind + " by 4094", x.encode(kind, 1, 2, 4094) != BAD, true);
            is("kind " + kind + " by 3", x.encode(kind, 1, 2, 3), BAD);
            is("kind " + kind + " by 4096", x.encode(kind, 1, 2, 4096), BAD);
            is("kind " + kind + " by -4098", x.encode(kind, 1, 2, -4098), BAD);
        }
        is("JAL by -1048576", x.encode(JAL, 1, -1048576, 0), -2147483409);
        is("JAL by 1048574", x.encode(JAL, 1, 1048574, 0) != BAD, true);
        is("JAL by 1", x.encode(JAL, 1, 1, 0), BAD);
        is("JAL by 1048576", x.encode(JAL, 1, 1048576, 0), BAD);
        is("JAL by -1048578", x.encode(JAL, 1, -1048578, 0), BAD);
        is("JALR by -2048", x.encode(JALR, 1, 2, -2048), Due.fields(-2048, 12, 2, 5, 0, 3, 1, 5, 103, 7));
        is("JALR by 2047", x.encode(JALR, 1, 2, 2047), Due.fields(2047, 12, 2, 5, 0, 3, 1, 5, 103, 7));
        is("JALR by 2048", x.encode(JALR, 1, 2, 2048), BAD);
        is("JALR by -2049", x.encode(JALR, 1, 2, -2049), BAD);
        is("reserved registers too", x.encode(ADD, 31, 27, 28) != BAD, true);
    }

    void encodeRefuses() {
        promise(2, "BAD when the kind or some number is out of its range (no instruction is -1).");
        FencedCode x = new FencedCode();
        for (int kind : new int[] {LOW, -1, 15, 16, 17, HIGH}) {
            is("encode(" + kind + ", 1, 2, 2)", x.encode(kind, 1, 2, 2), BAD);
            is("encode(" + kind + ", 0, 0, 0)", x.encode(kind, 0, 0, 0), BAD);
        }
        for (int kind = ADD; kind <= C_MV; kind++) {
            is("kind " + kind + ", a too large", x.encode(kind, 32, 2, 2), BAD);
            is("kind " + kind + ", a too small", x.encode(kind, -1, 2, 2), BAD);
            is("kind " + kind + ", b too large", x.encode(kind, 2, 1048576, 2), BAD);
            is("kind " + kind + ", b too small", x.encode(kind, 2, -1048577, 2), BAD);
            boolean hasThird = kind != LUI && kind != JAL && kind < C_ADDI;
            is("kind " + kind + ", c too large", x.encode(kind, 2, 2, 4096) == BAD, hasThird);
            is("kind " + kind + ", c too small", x.encode(kind, 2, 2, -4098) == BAD, hasThird);
        }
        is("kind(-1)", x.kind(-1), BAD);
        is("all bits of LUI that it has", x.encode(LUI, 31, 1048575, 0), -73);
    }

    void kindOfBits() {
        promise(3, "The kind (0 .. 14) of the instruction in these bits (of 16: the lower half alone is looked at);");
        FencedCode x = new FencedCode();
        for (int kind = ADD; kind <= C_MV; kind++) {
            is("kind " + kind, x.kind(e(kind, 3, 4, 6)), kind);
        }
        for (int upper : new int[] {0, 1, 0x7FFF, 0x8000, 0xFFFF}) {
            is("C.NOP below " + upper, x.kind(upper << 16 | 1), C_ADDI);
            is("C.ADDI below " + upper, x.kind(upper << 16 | e(C_ADDI, 31, -32, 0)), C_ADDI);
            is("C.MV below " + upper, x.kind(upper << 16 | e(C_MV, 31, 31, 0)), C_MV);
            is("no half below " + upper, x.kind(upper << 16), BAD);
        }
        is("a word's upper half is looked at", x.kind(51 | 1 << 25), BAD);
    }

    void kindRefuses() {
        promise(3, "BAD when they are illegal.");
        FencedCode x = new FencedCode();
        for (int bits : new int[] {0, 2, 3, -1, LOW, HIGH, 5, 0x81, 0x8002, 0x8082, 0x8006, 0x9002, 115, 0x1073}) {
            is("kind(" + bits + ")", x.kind(bits), BAD);
        }
    }

    void lineCounts() {
        promise(4, "One more line. How many there are;");
        FencedCode x = new FencedCode();
        for (int n = 1; n <= 20; n++) {
            is("line " + n, x.line(n % 17, n % 17 == CALL ? 2 : 1, 1, 1), n);
        }
        is("clear()", x.clear(), 20);
    }

    void lineRefuses() {
        promise(4, "BAD when kind is not 0 .. 16, or a number is out of its range (a target: 0 .. 20);");
        FencedCode x = new FencedCode();
        for (int kind : new int[] {LOW, -1, 17, HIGH}) {
            is("kind " + kind, x.line(kind, 1, 1, 1), BAD);
        }
        for (int kind = ADD; kind <= ADDRESS; kind++) {
            is("kind " + kind + ", a too large", x.line(kind, 27, 1, 1), BAD);
            is("kind " + kind + ", a too small", x.line(kind, -1, 1, 1), BAD);
        }
        for (int target : new int[] {LOW, -1, 21, HIGH}) {
            is("BEQ to " + target, x.line(BEQ, 1, 1, target), BAD);
            is("BNE to " + target, x.line(BNE, 1, 1, target), BAD);
            is("BLT to " + target, x.line(BLT, 1, 1, target), BAD);
            is("JAL to " + target, x.line(JAL, 1, target, 1), BAD);
            is("ADDRESS of " + target, x.line(ADDRESS, 1, target, 1), BAD);
        }
        is("none of them is a line", x.clear(), 0);
        is("BEQ to 0", x.line(BEQ, 1, 1, 0), 1);
        is("BEQ to 20", x.line(BEQ, 1, 1, 20), 2);
        is("JAL to 20", x.line(JAL, 1, 20, 1), 3);
        is("ADDRESS of 20", x.line(ADDRESS, 1, 20, 1), 4);
        is("a refused line in between", x.line(ADDRESS, 1, 21, 1), BAD);
        is("ADDRESS of 0", x.line(ADDRESS, 1, 0, 1), 5);
    }

    void lineFull() {
        promise(4, "then FULL.");
        FencedCode x = halves(20);
        is("a line that could be", x.line(C_ADDI, 1, 1, 0), FULL);
        is("no kind", x.line(17, 1, 1, 1), BAD);
        is("no number", x.line(C_ADDI, 1, 0, 0), BAD);
        is("no target", x.line(BEQ, 1, 1, 21), BAD);
        is("once more", x.line(C_ADDI, 1, 1, 0), FULL);
        is("build()", x.build(), 96);
        is("trial(99)", x.trial(99), 2);
        is("the twenty stay as they are", x.register(TRIAL, 1), 0);
        is("clear()", x.clear(), 20);
        is("room again", x.line(C_ADDI, 1, 1, 0), 1);
    }

    void clearTellsHowMany() {
        promise(5, "All lines go: how many they were.");
        FencedCode x = new FencedCode();
        is("none", x.clear(), 0);
        x.line(C_ADDI, 1, 1, 0);
        is("one", x.clear(), 1);
        is("none again", x.clear(), 0);
        FencedCode full = halves(20);
        is("twenty", full.clear(), 20);
        is("build()", full.build(), 64);
        is("address(1)", full.address(1), BAD);
        FencedCode kept = built(ADDI, 3, 0, 9, CALL, EXIT, 0, 0);
        kept.input(4);
        is("two", kept.clear(), 2);
        is("the code stays", kept.peek(-1), 80);
        is("the addresses stay", kept.address(2), 64);
        is("the trial stays", kept.trial(9), 1);
        is("the input stays", kept.input(4), 2);
    }

    void buildWritesTheCode() {
        promise(6, "Rewrites the program: the code is what comes out. How many bytes;");
        FencedCode x = new FencedCode();
        is("no lines", x.build(), 64);
        is("peek(-1)", x.peek(-1), 64);
        x.length(256);
        for (int i = 0; i < 256; i++) {
            x.poke(i, 255);
        }
        x.line(C_ADDI, 1, 1, 0);
        is("over a longer code", x.build(), 64);
        codeIs("over a longer code", x, e(C_ADDI, 1, 1, 0), HALF_NOP, NOP, NOP, NOP);
        is("peek(64)", x.peek(64), BAD);
        for (int i = 0; i < 48; i++) {
            is("nothing comes out for byte " + i, x.peek(i), 0);
        }
        x.length(10);
        is("over a shorter code", x.build(), 64);
        codeIs("over a shorter code", x, e(C_ADDI, 1, 1, 0), HALF_NOP, NOP, NOP, NOP);
        is("the most", bundles(12).build(), 256);
    }

    void buildNeedsTargets() {
        promise(6, "BAD when some target is above the number of lines;");
        for (int kind : new int[] {BEQ, BNE, BLT, JAL, ADDRESS}) {
            for (int target = 0; target <= 4; target++) {
                int b = kind <= BLT ? 1 : target;
                FencedCode x = Due.lines(C_ADDI, 1, 1, 0, kind, 1, b, target, C_ADDI, 1, 1, 0);
                is("kind " + kind + " to " + target + " of 3", x.build() == BAD, target > 3);
                is("peek(-1) is 0", x.peek(-1) == 0, target > 3);
            }
            FencedCode alone = Due.lines(kind, 1, kind <= BLT ? 1 : 20, 20);
            is("kind " + kind + " to 20 of 1", alone.build(), BAD);
            is("address(0)", alone.address(0), BAD);
        }
        FencedCode both = bundles(19);
        both.line(BEQ, 0, 0, 20);
        is("the highest target of 20 lines, which do not fit", both.build(), FULL);
        FencedCode bad = bundles(13);
        bad.line(BEQ, 0, 0, 15);
        is("neither a target nor fitting", bad.build(), BAD);
        FencedCode others = Due.lines(ADDI, 20, 20, 20, LUI, 1, 20, 20, JALR, 20, 20, 20, CALL, 2, 20, 20);
        is("other numbers are no targets", others.build() > 0, true);
    }

    void buildNeedsRoom() {
        promise(6, "FULL when it does not fit (the code stays).");
        FencedCode x = built(ADDI, 3, 0, 9);
        x.poke(50, 200);
        x.poke(7, 201);
        x.clear();
        for (int i = 0; i < 13; i++) {
            x.line(LW, 1, 20, 0);
        }
        is("build()", x.build(), FULL);
        is("the length stays", x.peek(-1), 64);
        is("byte 50 stays", x.peek(50), 200);
        is("byte 7 stays", x.peek(7), 201);
        is("byte 48 stays", x.peek(48), e(ADDI, 3, 0, 9) & 255);
        is("the addresses stay", x.address(1), 52);
        is("the lines stay", x.clear(), 13);
        FencedCode none = bundles(13);
        is("build()", none.build(), FULL);
        is("no code stays none", none.peek(-1), 0);
        x.line(BEQ, 0, 0, 20);
        is("build()", x.build(), BAD);
        is("with BAD the code stays too", x.peek(50), 200);
        is("with BAD the length stays too", x.peek(-1), 64);
    }

    void addressOfTheLatestBuild() {
        promise(7, "The address of a target, as the latest build() that was neither BAD nor FULL gave it;");
        FencedCode x = built(LW, 1, 20, 0, C_ADDI, 1, 1, 0);
        is("address(0)", x.address(0), 48);
        is("address(1)", x.address(1), 64);
        is("address(2)", x.address(2), 66);
        x.line(C_ADDI, 1, 1, 0);
        is("a line alone changes nothing", x.address(3), BAD);
        x.line(BEQ, 0, 0, 20);
        is("build()", x.build(), BAD);
        is("after BAD", x.address(1), 64);
        is("after BAD", x.address(3), BAD);
        x.clear();
        for (int i = 0; i < 13; i++) {
            x.line(LW, 1, 20, 0);
        }
        is("build()", x.build(), FULL);
        is("after FULL", x.address(2), 66);
        is("after FULL", x.address(3), BAD);
        x.length(0);
        is("length changes nothing", x.address(2), 66);
        x.clear();
        is("build()", x.build(), 64);
        is("after the next one", x.address(0), 48);
        is("after the next one", x.address(1), BAD);
    }

    void addressOfNothing() {
        promise(7, "BAD when there was none, or no such target then.");
        FencedCode x = Due.lines(C_ADDI, 1, 1, 0);
        for (int target : new int[] {LOW, -1, 0, 1, 2, 20, 21, HIGH}) {
            is("no build, address(" + target + ")", x.address(target), BAD);
        }
        x.build();
        for (int target : new int[] {LOW, -1, 2, 3, 20, 21, HIGH}) {
            is("one line, address(" + target + ")", x.address(target), BAD);
        }
        FencedCode full = halves(20);
        full.build();
        is("address(20)", full.address(20), 88);
        is("address(21)", full.address(21), BAD);
        FencedCode bad = Due.lines(BEQ, 0, 0, 20);
        bad.build();
        is("BAD was none", bad.address(0), BAD);
        FencedCode large = bundles(13);
        large.build();
        is("FULL was none", large.address(0), BAD);
    }

    void lengthAddsZeros() {
        promise(8, "The code gets a length of n bytes, what is new being 0.");
        FencedCode x = new FencedCode();
        is("length(256)", x.length(256), true);
        for (int i = 0; i < 256; i++) {
            is("peek(" + i + ")", x.peek(i), 0);
            x.poke(i, 255);
        }
        is("length(256) again", x.length(256), true);
        is("nothing is new", x.peek(255), 255);
        is("length(100)", x.length(100), true);
        is("what is left stays", x.peek(99), 255);
        is("length(102)", x.length(102), true);
        is("peek(99)", x.peek(99), 255);
        is("peek(100)", x.peek(100), 0);
        is("peek(101)", x.peek(101), 0);
        is("peek(102)", x.peek(102), BAD);
        is("length(0)", x.length(0), true);
        is("length(256)", x.length(256), true);
        for (int i = 0; i < 256; i++) {
            is("peek(" + i + ") again", x.peek(i), 0);
        }
    }

    void lengthRefuses() {
        promise(8, "False when n is not 0 .. 256.");
        FencedCode x = new FencedCode();
        x.length(3);
        x.poke(2, 9);
        for (int n : new int[] {LOW, -2, -1, 257, 258, 512, HIGH}) {
            is("length(" + n + ")", x.length(n), false);
            is("the length stays", x.peek(-1), 3);
            is("the bytes stay", x.peek(2), 9);
        }
        for (int n : new int[] {0, 1, 255, 256}) {
            is("length(" + n + ")", x.length(n), true);
            is("peek(-1)", x.peek(-1), n);
        }
    }

    void pokeChangesAByte() {
        promise(9, "Byte i of the code becomes b.");
        FencedCode x = new FencedCode();
        x.length(256);
        for (int i : new int[] {0, 1, 128, 254, 255}) {
            for (int b : new int[] {255, 128, 127, 1, 0}) {
                is("poke(" + i + ", " + b + ")", x.poke(i, b), true);
                is("peek(" + i + ")", x.peek(i), b);
            }
            x.poke(i, 77);
        }
        is("the others stay", x.peek(2) + x.peek(127) + x.peek(129) + x.peek(253), 0);
    }

    void pokeRefuses() {
        promise(9, "False when there is no such byte, or b is not 0 .. 255.");
        FencedCode none = new FencedCode();
        is("no code, poke(0, 1)", none.poke(0, 1), false);
        is("no code, poke(-1, 1)", none.poke(-1, 1), false);
        FencedCode x = new FencedCode();
        x.length(10);
        for (int i : new int[] {LOW, -2, -1, 10, 11, 255, 256, HIGH}) {
            is("poke(" + i + ", 1)", x.poke(i, 1), false);
        }
        is("poke(9, 7)", x.poke(9, 7), true);
        for (int b : new int[] {LOW, -128, -1, 256, HIGH}) {
            is("poke(9, " + b + ")", x.poke(9, b), false);
            is("byte 9 stays", x.peek(9), 7);
        }
        x.length(256);
        is("a byte behind the end was not poked", x.peek(10), 0);
        is("the length stays", x.peek(-1), 256);
    }

    void peekTellsBytes() {
        promise(10, "Byte i of the code;");
        FencedCode x = new FencedCode();
        x.length(256);
        for (int i = 0; i < 256; i++) {
            x.poke(i, 255 - i);
        }
        for (int i = 0; i < 256; i++) {
            is("peek(" + i + ")", x.peek(i), 255 - i);
        }
    }

    void peekTellsTheLength() {
        promise(10, "how many it has for i = -1;");
        FencedCode x = new FencedCode();
        is("no code", x.peek(-1), 0);
        for (int n : new int[] {256, 1, 0, 255}) {
            x.length(n);
            is("peek(-1)", x.peek(-1), n);
        }
        x.build();
        is("after build()", x.peek(-1), 64);
    }

    void peekRefuses() {
        promise(10, "BAD when there is no such byte.");
        FencedCode x = new FencedCode();
        is("no code, peek(0)", x.peek(0), BAD);
        for (int n : new int[] {1, 64, 256}) {
            x.length(n);
            is("the last one", x.peek(n - 1), 0);
            for (int i : new int[] {LOW, -3, -2, n, n + 1, 256, HIGH}) {
                is("of " + n + ", peek(" + i + ")", x.peek(i), BAD);
            }
        }
    }
}
