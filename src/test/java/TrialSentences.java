/** Terms: THE TRIAL, and the constants. */
final class TrialSentences extends Sentences {
    TrialSentences(Document document, Due due) {
        super(document, due);
    }

    void asMeant() {
        term("14, 17, 18", "THE TRIAL is the program as meant: lines one after the other, data and registers 0 .. 26 as"
                + " in the machine (27 to 31 are 0),");
        FencedCode x = built(ADDI, 26, 0, 7, LUI, 20, 1, 0, SW, 26, 20, 60, LW, 25, 20, 60, JALR, 0, 25, 0);
        for (int n = 0; n <= 4; n++) {
            is("trial(" + n + ")", x.trial(n), 0);
            stands("trial(" + n + ")", x, TRIAL, n, n);
            is("register 26 after " + n, x.register(TRIAL, 26), n > 0 ? 7 : 0);
            is("word 15 after " + n, x.word(TRIAL, 15), n > 2 ? 7 : 0);
            is("register 25 after " + n, x.register(TRIAL, 25), n > 3 ? 7 : 0);
            for (int r = 27; r <= 31; r++) {
                is("register " + r + " after " + n, x.register(TRIAL, r), 0);
            }
        }
        is("trial(0)", x.trial(0), 0);
        for (int r = 0; r <= 31; r++) {
            is("register " + r + " begins anew", x.register(TRIAL, r), 0);
        }
        for (int w = 0; w < 16; w++) {
            is("word " + w + " begins anew", x.word(TRIAL, w), 0);
        }
    }

    void addressesOfRewriting() {
        term("14, 17", "d of a line 16, 11, 12 and register 1 of a line 15 get the addresses that rewriting gives: the"
                + " target's, that of the next line.");
        FencedCode address = built(ADDRESS, 26, 1, 0, ADDRESS, 25, 0, 0);
        is("trial(2)", address.trial(2), 0);
        is("16, a line", address.register(TRIAL, 26), 64);
        is("16, the first line", address.register(TRIAL, 25), 48);
        FencedCode end = built(C_ADDI, 1, 1, 0, ADDRESS, 26, 2, 0);
        is("trial(2)", end.trial(2), 0);
        is("16, the end", end.register(TRIAL, 26), 64);
        FencedCode jump = built(JAL, 26, 2, 0, C_ADDI, 1, 1, 0);
        is("trial(1)", jump.trial(1), 0);
        is("11", jump.register(TRIAL, 26), 64);
        FencedCode last = built(JAL, 26, 1, 0);
        is("trial(1)", last.trial(1), 0);
        is("11, the end is next", last.register(TRIAL, 26), 64);
        FencedCode leap = built(ADDRESS, 5, 0, 0, JALR, 26, 5, 0);
        is("trial(2)", leap.trial(2), 0);
        is("12", leap.register(TRIAL, 26), 64);
        FencedCode same = built(ADDI, 5, 0, 48, JALR, 5, 5, 0);
        is("trial(2)", same.trial(2), 0);
        stands("12, d is s", same, TRIAL, 2, 0);
        is("12, d is s", same.register(TRIAL, 5), 64);
        for (int service = 0; service <= 2; service++) {
            FencedCode call = built(CALL, READ, 0, 0, CALL, service, 0, 0, C_ADDI, 2, 1, 0);
            is("trial(2)", call.trial(2), service == EXIT ? 1 : 0);
            is("15, service " + service, call.register(TRIAL, 1), 80);
        }
        FencedCode before = built(JAL, 26, 1, 0, LW, 1, 20, 0, JAL, 25, 3, 0, C_ADDI, 1, 1, 0, CALL, WRITE, 0, 0);
        is("address(3)", before.address(3), 96);
        is("trial(1)", before.trial(1), 0);
        is("that of the next line", before.register(TRIAL, 26), before.address(1));
    }

    void outside() {
        term("14", "6 and 7 outside of data: OUTSIDE (4).");
        for (int i : new int[] {-2048, -4, -1, 1, 2, 3, 61, 63, 64, 2047}) {
            for (int kind = LW; kind <= SW; kind++) {
                FencedCode x = built(LUI, 20, 1, 0, ADDI, 6, 0, 77, kind, 6, 20, i);
                is("kind " + kind + " by " + i, x.trial(9), 4);
                is("register 6 stays", x.register(TRIAL, 6), 77);
                is("word 0 stays", x.word(TRIAL, 0), 0);
                is("word 15 stays", x.word(TRIAL, 15), 0);
            }
        }
        for (int i = 0; i < 64; i += 4) {
            FencedCode x = built(LUI, 20, 1, 0, ADDI, 6, 0, 77, SW, 6, 20, i, LW, 7, 20, i);
            is("in data by " + i, x.trial(9), 2);
            is("register 7", x.register(TRIAL, 7), 77);
            is("word " + i / 4, x.word(TRIAL, i / 4), 77);
        }
        is("far below", built(LUI, 20, 524288, 0, LW, 0, 20, -4).trial(9), 4);
        is("far above", built(LUI, 20, 524287, 0, SW, 0, 20, 2047).trial(9), 4);
        is("address 0", built(LW, 0, 0, 0).trial(9), 4);
    }

    void leapsToBundles() {
        term("14", "A line 12 leads to the line (or the end) whose address is s, if that begins a bundle;");
        FencedCode line = built(ADDRESS, 3, 3, 0, JALR, 0, 3, 0, C_ADDI, 5, 1, 0, C_ADDI, 6, 1, 0);
        is("trial(2)", line.trial(2), 0);
        stands("to a line", line, TRIAL, 2, 3);
        FencedCode end = built(ADDRESS, 3, 3, 0, JALR, 0, 3, 0, C_ADDI, 5, 1, 0);
        is("trial(2)", end.trial(2), 0);
        stands("to the end", end, TRIAL, 2, 3);
        FencedCode first = built(ADDI, 3, 0, 48, JALR, 0, 3, 0);
        is("trial(2)", first.trial(2), 0);
        stands("to line 0", first, TRIAL, 2, 0);
        FencedCode itself = built(ADDRESS, 3, 1, 0, JALR, 0, 3, 0);
        is("trial(9)", itself.trial(9), 0);
        stands("to itself", itself, TRIAL, 9, 1);
        FencedCode chance = built(ADDI, 3, 0, 64, JALR, 4, 3, 0, C_ADDI, 5, 1, 0);
        is("address(2) begins a bundle, though no line 16 takes it", chance.address(2), 64);
        is("trial(2)", chance.trial(2), 0);
        stands("to a line that no line 16 takes", chance, TRIAL, 2, 2);
    }

    void leaves() {
        term("14", "LEFT (5), if there is none such.");
        for (int s : new int[] {-2048, -48, -16, -1, 0, 1, 16, 32, 47, 49, 52, 56, 63, 65, 66, 80, 304, 2047}) {
            FencedCode x = built(ADDI, 3, 0, s, JALR, 4, 3, 0, C_ADDI, 5, 1, 0, C_ADDI, 5, 1, 0);
            is("address(2)", x.address(2), 64);
            is("to " + s, x.trial(9), 5);
        }
        FencedCode inner = built(ADDI, 3, 0, 52, JALR, 0, 3, 0);
        is("address(1) begins no bundle", inner.address(1), 52);
        is("to a line that begins no bundle", inner.trial(9), 5);
        FencedCode end = built(ADDI, 3, 0, 60, JALR, 0, 3, 0);
        is("address(2) begins no bundle", end.address(2), 60);
        is("to an end that begins no bundle", end.trial(9), 5);
        FencedCode behind = built(ADDI, 3, 0, 64, JALR, 0, 3, 0, C_ADDI, 1, 1, 0, LW, 5, 20, 0);
        is("address(3)", behind.address(3), 62);
        is("to where a line begins behind its own padding", behind.trial(9), 5);
        is("far away", built(LUI, 3, 524288, 0, JALR, 0, 3, 0).trial(9), 5);
    }

    void whereItStands() {
        term("14, 15", "With EXIT, LEFT and OUTSIDE it stands at that line.");
        FencedCode exit = built(C_ADDI, 5, 1, 0, CALL, EXIT, 0, 0, C_ADDI, 5, 1, 0);
        is("trial(9)", exit.trial(9), 1);
        stands("EXIT", exit, TRIAL, 2, 1);
        is("no line behind it", exit.register(TRIAL, 5), 1);
        FencedCode left = built(C_ADDI, 5, 1, 0, JALR, 0, 4, 0, C_ADDI, 5, 1, 0);
        is("trial(9)", left.trial(9), 5);
        stands("LEFT", left, TRIAL, 1, 1);
        is("no line behind it", left.register(TRIAL, 5), 1);
        for (int kind = LW; kind <= SW; kind++) {
            FencedCode out = built(C_ADDI, 5, 1, 0, kind, 5, 0, 0, C_ADDI, 5, 1, 0);
            is("trial(9)", out.trial(9), 4);
            stands("OUTSIDE", out, TRIAL, 1, 1);
            is("no line behind it", out.register(TRIAL, 5), 1);
        }
        FencedCode first = built(CALL, EXIT, 0, 0);
        is("trial(1)", first.trial(1), 1);
        stands("EXIT at the first line", first, TRIAL, 1, 0);
    }

    void theEnd() {
        term("14, 15", "At the end (also by a jump): NOWHERE (2).");
        FencedCode none = built();
        is("no lines", none.trial(9), 2);
        stands("no lines", none, TRIAL, 0, 0);
        FencedCode straight = built(C_ADDI, 5, 1, 0, C_ADDI, 5, 1, 0);
        is("trial(9)", straight.trial(9), 2);
        stands("straight on", straight, TRIAL, 2, 2);
        int[][] jumps = {{BEQ, 0, 0, 3}, {BNE, 1, 0, 3}, {BLT, 0, 1, 3}, {JAL, 0, 3, 0}, {JAL, 5, 3, 0}};
        for (int[] jump : jumps) {
            FencedCode x = built(C_ADDI, 1, 1, 0, jump[0], jump[1], jump[2], jump[3], C_ADDI, 6, 1, 0);
            is("trial(9)", x.trial(9), 2);
            stands("by kind " + jump[0], x, TRIAL, 2, 3);
            is("line 2 was left out", x.register(TRIAL, 6), 0);
        }
        FencedCode leap = built(ADDRESS, 3, 3, 0, JALR, 0, 3, 0, C_ADDI, 6, 1, 0);
        is("trial(9)", leap.trial(9), 2);
        stands("by a line 12", leap, TRIAL, 2, 3);
        FencedCode call = built(CALL, READ, 0, 0);
        is("trial(9)", call.trial(9), 2);
        stands("by a line 15", call, TRIAL, 1, 1);
    }

    void calls() {
        term("14", "A line 15 goes on with the next line, EXIT ends.");
        FencedCode x = built(CALL, READ, 0, 0, CALL, WRITE, 0, 0, CALL, EXIT, 0, 0, C_ADDI, 5, 1, 0);
        x.input(12);
        for (int n = 0; n <= 2; n++) {
            is("trial(" + n + ")", x.trial(n), 0);
            stands("trial(" + n + ")", x, TRIAL, n, n);
        }
        is("trial(3)", x.trial(3), 1);
        is("output(1, 0)", x.output(TRIAL, 0), 12);
        is("trial(99)", x.trial(99), 1);
        is("register 5", x.register(TRIAL, 5), 0);
        FencedCode loop = built(CALL, WRITE, 0, 0, JAL, 0, 0, 0);
        for (int n : new int[] {39, 40, 41}) {
            is("trial(2 * " + n + ")", loop.trial(2 * n), 0);
            is("outputs", loop.state(TRIAL, 2), Math.min(n, 40));
        }
        FencedCode many = built(CALL, READ, 0, 0, JAL, 0, 0, 0);
        for (int n = 0; n < 20; n++) {
            many.input(300 + n);
        }
        for (int n = 0; n < 22; n++) {
            many.trial(2 * n + 1);
            is("input " + n, many.register(TRIAL, 10), n < 20 ? 300 + n : -1);
        }
    }

    void inputsBeginAnew() {
        term("12, 13, 14", "(Inputs begin anew with each run and each trial.)");
        FencedCode x = built(CALL, READ, 0, 0, CALL, WRITE, 0, 0, CALL, READ, 0, 0, CALL, WRITE, 0, 0);
        x.input(1);
        x.input(2);
        for (int round = 0; round < 3; round++) {
            is("run(99)", x.run(99), 2);
            is("output(0, 0)", x.output(RUN, 0), 1);
            is("output(0, 1)", x.output(RUN, 1), 2);
            is("trial(99)", x.trial(99), 2);
            is("output(1, 0)", x.output(TRIAL, 0), 1);
            is("output(1, 1)", x.output(TRIAL, 1), 2);
        }
        x.input(3);
        is("a run that has read one", x.trial(1), 0);
        is("register(1, 10)", x.register(TRIAL, 10), 1);
        is("trial(3)", x.trial(3), 0);
        is("register(1, 10)", x.register(TRIAL, 10), 2);
    }

    void constants() {
        term("2 to 18", "The constants: `BAD = -1`, `FULL = -2`: A number is out of its range, or there is no such thing.");
        is("BAD", FencedCode.BAD, -1);
        is("FULL", FencedCode.FULL, -2);
    }
}
