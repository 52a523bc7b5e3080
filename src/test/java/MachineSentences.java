/** Terms: THE MACHINE. */
final class MachineSentences extends Sentences {
    MachineSentences(Document document, Due due) {
        super(document, due);
    }

    void begins() {
        term("13, 17, 18", "THE MACHINE begins at address 48, with all registers 0 but 27 (240), 28 (4096), 29 (60),"
                + " all data 0, no output.");
        FencedCode x = Due.code(128, e(SW, 27, 28, 0), e(SW, 27, 28, 60), e(ADDI, 10, 0, 3), e(ADDI, 27, 0, 1),
                e(ADDI, 28, 0, 1), e(ADDI, 29, 0, 1), e(ADDI, 1, 0, 96), e(JAL, 0, 16 - 76, 0));
        is("run(9)", x.run(9), 0);
        is("a word of data", x.word(RUN, 0), 240);
        is("an output", x.state(RUN, 2), 1);
        is("register 28", x.register(RUN, 28), 1);
        is("run(0)", x.run(0), 0);
        stands("run(0)", x, RUN, 0, 48);
        for (int r = 0; r <= 31; r++) {
            is("register " + r, x.register(RUN, r), r == 27 ? 240 : r == 28 ? 4096 : r == 29 ? 60 : 0);
        }
        for (int w = 0; w < 16; w++) {
            is("word " + w, x.word(RUN, w), 0);
        }
        is("outputs", x.state(RUN, 2), 0);
        is("output 0", x.output(RUN, 0), 0);
    }

    void reads() {
        term("12, 13", "A STEP: at 0: register 10 becomes the next INPUT (-1 when there is none more);");
        FencedCode x = Due.code(64, e(ADDI, 10, 0, 7), e(JAL, 0, -52, 0));
        is("run(3)", x.run(3), 0);
        is("no input", x.register(RUN, 10), -1);
        int[] values = {LOW, HIGH, 0, -1, 5};
        for (int v : values) {
            x.input(v);
        }
        for (int n = 0; n < 8; n++) {
            is("run(" + (3 + n) + ")", x.run(3 + n), 0);
            is("input " + n, x.register(RUN, 10), n < 5 ? values[n] : -1);
        }
    }

    void readsTwentyInputs() {
        term("12, 13", "(-1 when there is none more);");
        FencedCode x = Due.code(64, e(JAL, 0, -48, 0));
        for (int n = 0; n < 21; n++) {
            x.input(100 + n);
        }
        for (int n = 0; n < 25; n++) {
            x.run(2 + n);
            is("input " + n, x.register(RUN, 10), n < 20 ? 100 + n : -1);
        }
        x.run(2000);
        is("long after the last", x.register(RUN, 10), -1);
    }

    /** Puts register 10 to the output again and again: register 1 is 16 there, and so WRITE comes back to WRITE. */
    private static FencedCode writing() {
        return Due.code(64, e(ADDI, 10, 0, -9), e(ADDI, 1, 0, 16), e(JAL, 0, 16 - 56, 0));
    }

    void writes() {
        term("13, 15, 16", "at 16: register 10 is put to the OUTPUT (at most 40; nothing more is put then);");
        FencedCode x = writing();
        for (int n : new int[] {0, 1, 2, 39, 40, 41, 1000}) {
            is("run(" + (3 + n) + ")", x.run(3 + n), 0);
            stands("after " + n, x, RUN, 3 + n, 16);
            is("outputs after " + n, x.state(RUN, 2), Math.min(n, 40));
            for (int i = 0; i <= 41; i++) {
                is("output " + i + " after " + n, x.output(RUN, i), i < Math.min(n, 40) ? -9 : 0);
            }
        }
    }

    void theFirstFortyStay() {
        term("13, 16", "(at most 40; nothing more is put then);");
        FencedCode x = Due.code(80, e(C_ADDI, 10, 1, 0), HALF_NOP, NOP, NOP, e(JAL, 1, 16 - 60, 0), e(JAL, 0, -16, 0));
        is("run(7 * 43)", x.run(7 * 43), 0);
        is("register 10", x.register(RUN, 10), 43);
        is("outputs", x.state(RUN, 2), 40);
        is("output 0", x.output(RUN, 0), 1);
        is("output 39", x.output(RUN, 39), 40);
        is("output 40", x.output(RUN, 40), 0);
    }

    void servicesComeBack() {
        term("13", "at both it goes on at (register 1) & 240.");
        for (int service : new int[] {0, 16}) {
            for (int back : new int[] {0, 15, 16, 47, 48, 63, 64, 79, 240, 255, 256, 304, -1, -16, -17, 2047}) {
                FencedCode x = Due.code(256, e(ADDI, 1, 0, back), e(JAL, 0, service - 52, 0));
                is("run(3)", x.run(3), 0);
                stands("by " + back, x, RUN, 3, back & 240);
                is("register 1 stays", x.register(RUN, 1), back);
            }
        }
    }

    void exits() {
        term("13", "At 32: EXIT (1).");
        FencedCode x = Due.code(64, e(JAL, 1, -16, 0));
        is("run(1)", x.run(1), 0);
        is("run(2)", x.run(2), 1);
        stands("EXIT", x, RUN, 2, 32);
        is("run(2000)", x.run(2000), 1);
        FencedCode leap = Due.code(64, e(JALR, 0, 0, 33));
        is("by JALR", leap.run(9), 1);
        FencedCode back = Due.code(64, e(ADDI, 1, 0, 47), e(JAL, 0, -52, 0));
        is("from READ", back.run(9), 1);
    }

    void nowhere() {
        term("13", "Otherwise NOWHERE (2): the address is below 48 or not below the code's length, or not even;");
        for (int to : new int[] {-1048528, -16, -2, 2, 14, 18, 30, 34, 46, 64, 66, 256, 1048574}) {
            FencedCode x = Due.code(64, e(JAL, 0, to - 48, 0));
            is("to " + to, x.run(9), 2);
            stands("to " + to, x, RUN, 1, to);
        }
        for (int n : new int[] {0, 1, 47, 48}) {
            FencedCode x = new FencedCode();
            x.length(n);
            is("a code of " + n, x.run(9), 2);
            stands("a code of " + n, x, RUN, 0, 48);
        }
        FencedCode whole = Due.blank(256);
        is("behind the last byte", whole.run(99), 2);
        stands("behind the last byte", whole, RUN, 52, 256);
        // No jump leads to an odd address: JALR makes it even, and services come back to bundles.
        FencedCode odd = Due.code(64, e(JALR, 0, 0, 61));
        is("an odd address", odd.run(1), 0);
        stands("an odd address", odd, RUN, 1, 60);
        FencedCode low = codeWith(LOW, 0, e(JALR, 0, 5, 0));
        is("the lowest address", low.run(9), 2);
        stands("the lowest address", low, RUN, 5, LOW);
    }

    void illegal() {
        term("13", "ILLEGAL (3), also when it goes over the code's end;");
        FencedCode x = Due.code(64, NOP, 0);
        is("a half", x.run(9), 3);
        stands("a half", x, RUN, 1, 52);
        is("a word", Due.code(64, NOP, 115).run(9), 3);
        for (int n = 61; n <= 63; n++) {
            FencedCode cut = Due.blank(64);
            cut.length(n);
            is("a word over the end of " + n, cut.run(9), 3);
            stands("a word over the end of " + n, cut, RUN, 3, 60);
        }
        FencedCode half = Due.code(64, HALF_NOP, HALF_NOP);
        half.length(51);
        is("a half over the end", half.run(9), 3);
        stands("a half over the end", half, RUN, 1, 50);
        half.length(52);
        is("a half up to the end", half.run(9), 2);
        stands("a half up to the end", half, RUN, 2, 52);
        FencedCode last = Due.blank(256);
        Due.put(last, 252, HALF_NOP);
        last.poke(254, 19);
        is("a word over the end of 256", last.run(99), 3);
        stands("a word over the end of 256", last, RUN, 52, 254);
        FencedCode over = Due.code(80, HALF_NOP, NOP, NOP, NOP, NOP, HALF_NOP);
        is("over a bundle's end it is not", over.run(5), 0);
    }

    void outside() {
        term("13", "OUTSIDE (4): an LW or SW with an address that is none of a word of data.");
        for (int address : new int[] {LOW, -4, 0, 48, 4092, 4095, 4097, 4098, 4099, 4157, 4158, 4159, 4160, HIGH}) {
            for (int kind = LW; kind <= SW; kind++) {
                FencedCode x = codeWith(address, 77, e(kind, 6, 5, 0));
                is("kind " + kind + " at " + address, x.run(9), 4);
                stands("kind " + kind + " at " + address, x, RUN, 4, 64);
                is("register 6 stays", x.register(RUN, 6), 77);
                for (int w = 0; w < 16; w++) {
                    is("word " + w + " stays", x.word(RUN, w), 0);
                }
            }
        }
        is("LW 0 too", Due.code(64, e(LW, 0, 0, 0)).run(9), 4);
        FencedCode edges = codeWith(4096, 0, e(LW, 6, 5, 0), e(LW, 6, 5, 60), e(LW, 6, 5, 64));
        is("the first and the last word", edges.run(6), 0);
        is("one behind", edges.run(7), 4);
    }

    void noStepLeft() {
        term("13", "0 when no step is left.");
        FencedCode x = Due.blank(64);
        for (int fuel = 0; fuel <= 4; fuel++) {
            is("run(" + fuel + ")", x.run(fuel), 0);
            stands("run(" + fuel + ")", x, RUN, fuel, 48 + 4 * fuel);
        }
        is("run(5)", x.run(5), 2);
        is("run(0) of no code", new FencedCode().run(0), 0);
        FencedCode loop = Due.code(64, e(JAL, 0, 0, 0));
        is("run(2000)", loop.run(2000), 0);
        stands("run(2000)", loop, RUN, 2000, 48);
    }

    void whichStepsCount() {
        term("13, 15", "The step that ends with EXIT counts, the others that end do not.");
        FencedCode exit = Due.code(64, NOP, e(JAL, 0, 32 - 52, 0));
        is("run(9)", exit.run(9), 1);
        stands("EXIT", exit, RUN, 3, 32);
        FencedCode nowhere = Due.code(64, NOP, e(JAL, 0, 4 - 52, 0));
        is("run(9)", nowhere.run(9), 2);
        stands("NOWHERE", nowhere, RUN, 2, 4);
        FencedCode illegal = Due.code(64, NOP, NOP, 0);
        is("run(9)", illegal.run(9), 3);
        stands("ILLEGAL", illegal, RUN, 2, 56);
        FencedCode outside = Due.code(64, NOP, NOP, e(SW, 1, 0, 0));
        is("run(9)", outside.run(9), 4);
        stands("OUTSIDE", outside, RUN, 2, 56);
        FencedCode trial = built(C_ADDI, 1, 1, 0, CALL, EXIT, 0, 0);
        is("trial(9)", trial.trial(9), 1);
        is("EXIT of a trial", trial.state(TRIAL, 0), 2);
        FencedCode left = built(C_ADDI, 1, 1, 0, JALR, 0, 5, 0);
        is("trial(9)", left.trial(9), 5);
        is("LEFT of a trial", left.state(TRIAL, 0), 1);
        FencedCode out = built(C_ADDI, 1, 1, 0, LW, 1, 0, 0);
        is("trial(9)", out.trial(9), 4);
        is("OUTSIDE of a trial", out.state(TRIAL, 0), 1);
        FencedCode end = built(C_ADDI, 1, 1, 0);
        is("trial(9)", end.trial(9), 2);
        is("NOWHERE of a trial", end.state(TRIAL, 0), 1);
    }
}
