/** Terms: REGISTERS, CODE and DATA. */
final class RegistersSentences extends Sentences {
    RegistersSentences(Document document, Due due) {
        super(document, due);
    }

    void registersHoldInts() {
        term("17", "REGISTERS 0 .. 31 hold ints;");
        for (int r = 1; r <= 31; r++) {
            FencedCode x = Due.code(64, e(LUI, r, 524288, 0), e(ADDI, r, r, -1));
            x.run(1);
            is("the lowest in " + r, x.register(RUN, r), LOW);
            x.run(2);
            is("the highest in " + r, x.register(RUN, r), HIGH);
        }
        is("no register -1", new FencedCode().encode(ADD, -1, 0, 0), BAD);
        is("no register 32", new FencedCode().encode(ADD, 32, 0, 0), BAD);
    }

    void registerZeroInARun() {
        term("13, 17", "register 0 is always 0.");
        FencedCode x = Due.code(96, e(LUI, 1, 1, 0), e(SW, 1, 1, 0), e(ADD, 0, 1, 1), e(SUB, 0, 0, 1),
                e(AND, 0, 1, 1), e(OR, 0, 1, 1), e(ADDI, 0, 0, 5), e(LUI, 0, 7, 0), e(LW, 0, 1, 0),
                e(JAL, 0, 4, 0), e(JALR, 0, 0, 92));
        for (int n = 0; n <= 11; n++) {
            is("run(" + n + ")", x.run(n), 0);
            is("register 0 after " + n, x.register(RUN, 0), 0);
            is("place after " + n, x.state(RUN, 1), 48 + 4 * n);
        }
    }

    void registerZeroInATrial() {
        term("14, 17", "register 0 is always 0.");
        FencedCode x = built(LUI, 1, 1, 0, SW, 1, 1, 0, ADD, 0, 1, 1, SUB, 0, 0, 1, AND, 0, 1, 1, OR, 0, 1, 1,
                ADDI, 0, 0, 5, LUI, 0, 7, 0, LW, 0, 1, 0, JAL, 0, 10, 0, ADDRESS, 0, 0, 0, ADDRESS, 2, 13, 0,
                JALR, 0, 2, 0);
        for (int n = 0; n <= 13; n++) {
            is("trial(" + n + ")", x.trial(n), 0);
            is("register 0 after " + n, x.register(TRIAL, 0), 0);
            is("line after " + n, x.state(TRIAL, 1), n);
        }
    }

    void someAreReserved() {
        term("4, 11", "27 to 31 are RESERVED.");
        for (int r = 25; r <= 31; r++) {
            is("a line with " + r, new FencedCode().line(ADD, r, 1, 1), r <= 26 ? 1 : BAD);
            is("check of ADD " + r, Due.code(64, e(ADD, r, 1, 1)).check(), r <= 26 ? BAD : 48);
        }
    }

    void codeIsARow() {
        term("8, 9, 10", "CODE is a row of at most 256 bytes, addresses 0 .. 255,");
        FencedCode x = new FencedCode();
        is("length(257)", x.length(257), false);
        is("length(256)", x.length(256), true);
        is("poke(0, 1)", x.poke(0, 1), true);
        is("poke(255, 2)", x.poke(255, 2), true);
        is("poke(256, 3)", x.poke(256, 3), false);
        is("poke(-1, 3)", x.poke(-1, 3), false);
        is("peek(0)", x.peek(0), 1);
        is("peek(255)", x.peek(255), 2);
        is("peek(256)", x.peek(256), BAD);
    }

    void bundlesAreOfSixteen() {
        term("11", "in BUNDLES of 16;");
        for (int end = 64; end < 256; end += 16) {
            FencedCode x = Due.blank(256);
            is("a word up to " + end, x.check(), BAD);
            Due.put(x, end - 4, HALF_NOP, NOP, HALF_NOP);
            is("a word over " + end, x.check(), end - 2);
        }
        FencedCode x = Due.code(80, HALF_NOP, NOP, NOP, NOP, HALF_NOP);
        is("words over 52, 56 and 60", x.check(), BAD);
    }

    void servicesHaveTheirAddresses() {
        term("13", "its first 48 addresses are the SERVICES' (0 READ, 16 WRITE, 32 EXIT),");
        FencedCode read = Due.code(64, e(JAL, 1, -48, 0));
        read.input(9);
        is("run(2)", read.run(2), 0);
        is("READ", read.register(RUN, 10), 9);
        FencedCode write = Due.code(64, e(ADDI, 10, 0, 5), e(JAL, 1, 16 - 52, 0));
        is("run(3)", write.run(3), 0);
        is("WRITE", write.output(RUN, 0), 5);
        FencedCode exit = Due.code(64, e(JAL, 1, 32 - 48, 0));
        is("EXIT", exit.run(2), 1);
        for (int to = 2; to < 48; to += 2) {
            if (to % 16 != 0) {
                is("no service at " + to, Due.code(64, e(JAL, 1, to - 48, 0)).run(9), 2);
            }
        }
    }

    void bytesOfServicesAreNeverRun() {
        term("13", "bytes there are never run.");
        for (int to = 0; to < 48; to += 2) {
            FencedCode x = Due.code(64, e(JAL, 0, to - 48, 0));
            for (int at = 0; at < 48; at += 4) {
                Due.put(x, at, e(ADDI, 5, 5, 1));
            }
            is("run(9) to " + to, x.run(9), to == 32 ? 1 : to % 16 == 0 ? 0 : 2);
            is("register 5", x.register(RUN, 5), 0);
            is("check()", x.check(), to % 16 == 0 ? BAD : 48);
        }
    }

    void dataHasItsAddresses() {
        term("13, 18", "DATA has the addresses 4096 .. 4159, sixteen words,");
        for (int address = 4088; address <= 4168; address++) {
            boolean isWord = address >= 4096 && address <= 4156 && address % 4 == 0;
            for (int kind = LW; kind <= SW; kind++) {
                FencedCode x = codeWith(address, -7, e(kind, 6, 5, 0));
                is("kind " + kind + " at " + address, x.run(5), isWord ? 0 : 4);
                is("word(0, 0)", x.word(RUN, 0), kind == SW && address == 4096 ? -7 : 0);
                is("word(0, 15)", x.word(RUN, 15), kind == SW && address == 4156 ? -7 : 0);
            }
        }
    }

    /** Words alone are reached, so that their bytes are never seen one by one. */
    void bytesOfAWord() {
        term("13, 18", "the lowest byte of each first.");
        FencedCode x = codeWith(4100, 0x01020384, e(SW, 6, 5, 0), e(LW, 7, 5, 0));
        is("run(6)", x.run(6), 0);
        is("word(0, 1)", x.word(RUN, 1), 0x01020384);
        is("register 7", x.register(RUN, 7), 0x01020384);
        for (int i = 1; i <= 3; i++) {
            is("a byte of it", codeWith(4100, 0, e(LW, 7, 5, i)).run(9), 4);
        }
    }

    void sumsWrap() {
        term("13, 14", "Sums wrap.");
        wraps(HIGH, 1, ADD, LOW);
        wraps(LOW, -1, ADD, HIGH);
        wraps(LOW, LOW, ADD, 0);
        wraps(LOW, 1, SUB, HIGH);
        wraps(HIGH, -1, SUB, LOW);
        wraps(0, LOW, SUB, LOW);
        FencedCode x = codeWith(HIGH, LOW, e(ADDI, 7, 5, 2047), e(ADDI, 8, 6, -2048), e(C_ADDI, 5, 31, 0),
                e(C_ADDI, 6, -32, 0));
        is("run(8)", x.run(8), 0);
        is("ADDI above", x.register(RUN, 7), LOW + 2046);
        is("ADDI below", x.register(RUN, 8), HIGH - 2047);
        is("C.ADDI above", x.register(RUN, 5), LOW + 30);
        is("C.ADDI below", x.register(RUN, 6), HIGH - 31);
        FencedCode leap = codeWith(HIGH, 0, e(JALR, 0, 5, 1));
        is("JALR above", leap.run(9), 2);
        stands("JALR above", leap, RUN, 5, LOW);
        FencedCode back = codeWith(LOW, 0, e(JALR, 0, 5, -1));
        is("JALR below", back.run(9), 2);
        stands("JALR below", back, RUN, 5, HIGH - 1);
        is("LW above", codeWith(HIGH - 3, 0, e(LW, 7, 5, 4)).run(9), 4);
        is("SW below", codeWith(LOW, 0, e(SW, 7, 5, -4)).run(9), 4);
        is("SW at the lowest and 4096", codeWith(LOW + 4096, 0, e(SW, 7, 5, 0)).run(9), 4);
    }

    /** In a run and in a trial alike: register 7 becomes what is due. */
    private void wraps(int s, int t, int kind, int want) {
        FencedCode x = codeWith(s, t, e(kind, 7, 5, 6));
        is("run(5)", x.run(5), 0);
        is(s + " and " + t + " in a run", x.register(RUN, 7), want);
        int[] five = {s << 20 >> 20, s - (s << 20 >> 20) >>> 12};
        int[] six = {t << 20 >> 20, t - (t << 20 >> 20) >>> 12};
        FencedCode y = built(LUI, 5, five[1], 0, ADDI, 5, 5, five[0], LUI, 6, six[1], 0, ADDI, 6, 6, six[0],
                kind, 7, 5, 6);
        is("trial(5)", y.trial(5), 0);
        is(s + " and " + t + " in a trial", y.register(TRIAL, 7), want);
    }
}
