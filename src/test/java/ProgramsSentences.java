/** Terms: PROGRAMS with their lines and targets. */
final class ProgramsSentences extends Sentences {
    private static final int[] TOP_REGISTERS = {0, 26};
    private static final int[] NO_REGISTERS = {LOW, -1, 27, 31, 32, HIGH};

    ProgramsSentences(Document document, Due due) {
        super(document, due);
    }

    private void takes(int kind, int a, int b, int c) {
        is("line(" + kind + ", " + a + ", " + b + ", " + c + ")", new FencedCode().line(kind, a, b, c), 1);
    }

    private void refuses(int kind, int a, int b, int c) {
        FencedCode x = new FencedCode();
        is("line(" + kind + ", " + a + ", " + b + ", " + c + ")", x.line(kind, a, b, c), BAD);
        is("no line more", x.clear(), 0);
    }

    /** The last number of this kind's three is one of -2048 .. 2047, behind two registers. */
    private void takesShorts(int kind) {
        for (int r : TOP_REGISTERS) {
            for (int i : new int[] {-2048, -1, 0, 2047}) {
                takes(kind, r, 26 - r, i);
            }
        }
        for (int i : new int[] {LOW, -2049, 2048, HIGH}) {
            refuses(kind, 1, 1, i);
        }
        for (int r : NO_REGISTERS) {
            refuses(kind, r, 1, 1);
            refuses(kind, 1, r, 1);
        }
    }

    void twentyLines() {
        term("4", "PROGRAMS are rows of at most 20 LINES;");
        FencedCode x = new FencedCode();
        for (int n = 1; n <= 20; n++) {
            is("line " + n, x.line(C_ADDI, 1, 1, 0), n);
        }
        is("line 21", x.line(C_ADDI, 1, 1, 0), FULL);
        is("build()", x.build(), 96);
        is("trial(99)", x.trial(99), 2);
        is("register(1, 1)", x.register(TRIAL, 1), 20);
        FencedCode last = halves(19);
        is("the last line too", last.line(CALL, EXIT, 0, 0), 20);
        is("build()", last.build(), 112);
        is("ends with a bundle", Due.bitsAt(last, 92), e(JAL, 1, 32 - 92, 0));
        is("address(20)", last.address(20), 96);
        is("clear()", x.clear(), 20);
    }

    void targetsGoUpToTheEnd() {
        term("6, 7", "TARGETS are the numbers 0 .. lines (the last one is the end).");
        FencedCode none = built();
        is("no lines: address(0) is the end's", none.address(0), 48);
        is("no lines: address(1)", none.address(1), BAD);
        FencedCode two = built(ADDI, 1, 0, 1, BEQ, 0, 0, 2);
        is("two lines: address(2)", two.address(2), 56);
        is("two lines: address(3)", two.address(3), BAD);
        is("to the end", two.trial(9), 2);
        stands("to the end", two, TRIAL, 2, 2);
        FencedCode all = halves(19);
        all.line(JAL, 0, 20, 0);
        is("twenty lines: build()", all.build(), 96);
        is("twenty lines: address(20)", all.address(20), 90);
        is("twenty lines: address(21)", all.address(21), BAD);
        FencedCode above = Due.lines(ADDI, 1, 0, 1, BEQ, 0, 0, 3);
        is("one above the end", above.build(), BAD);
    }

    void threeNumbers() {
        term("4", "A line has a KIND and a, b, c: 0 to 4 as above with d, s, and t or i;");
        for (int kind = ADD; kind <= OR; kind++) {
            for (int r : TOP_REGISTERS) {
                takes(kind, r, 26 - r, r);
            }
            for (int r : NO_REGISTERS) {
                refuses(kind, r, 1, 1);
                refuses(kind, 1, r, 1);
                refuses(kind, 1, 1, r);
            }
        }
        takesShorts(ADDI);
        FencedCode x = built(ADDI, 5, 0, 9, ADDI, 6, 0, 4, SUB, 7, 5, 6);
        is("trial(9)", x.trial(9), 2);
        is("d, s, t", x.register(TRIAL, 7), 5);
    }

    void upperNumbers() {
        term("4", "5 with d, i (0 .. 1048575);");
        for (int r : TOP_REGISTERS) {
            takes(LUI, r, 0, 0);
            takes(LUI, r, 1048575, 0);
        }
        for (int i : new int[] {LOW, -1, 1048576, HIGH}) {
            refuses(LUI, 1, i, 0);
        }
        for (int r : NO_REGISTERS) {
            refuses(LUI, r, 1, 0);
        }
    }

    void loads() {
        term("4", "6 with d, s, i;");
        takesShorts(LW);
    }

    void stores() {
        term("4", "7 with t, s, i;");
        takesShorts(SW);
    }

    void branches() {
        term("4", "8 to 10 with s, t, a target;");
        for (int kind = BEQ; kind <= BLT; kind++) {
            for (int target : new int[] {0, 1, 20}) {
                takes(kind, 0, 26, target);
                takes(kind, 26, 0, target);
            }
            for (int target : new int[] {LOW, -1, 21, HIGH}) {
                refuses(kind, 1, 1, target);
            }
            for (int r : NO_REGISTERS) {
                refuses(kind, r, 1, 0);
                refuses(kind, 1, r, 0);
            }
        }
        FencedCode x = built(ADDI, 5, 0, -1, BLT, 5, 0, 3, ADDI, 6, 0, 1);
        is("trial(9)", x.trial(9), 2);
        is("s is the first, t the second", x.register(TRIAL, 6), 0);
    }

    private void takesTargets(int kind) {
        for (int target : new int[] {0, 1, 20}) {
            takes(kind, 0, target, 0);
            takes(kind, 26, target, 0);
        }
        for (int target : new int[] {LOW, -1, 21, HIGH}) {
            refuses(kind, 1, target, 0);
        }
        for (int r : NO_REGISTERS) {
            refuses(kind, r, 0, 0);
        }
    }

    void jumps() {
        term("4", "11 with d, a target;");
        takesTargets(JAL);
    }

    void leaps() {
        term("4, 6", "12 with d, s (i is 0);");
        takes(JALR, 0, 26, 0);
        takes(JALR, 26, 0, 0);
        for (int r : NO_REGISTERS) {
            refuses(JALR, r, 1, 0);
            refuses(JALR, 1, r, 0);
        }
        FencedCode x = built(JALR, 0, 5, 0);
        is("the number of what is built", Due.bitsAt(x, 52) >> 20, 0);
    }

    void shortNumbers() {
        term("4", "13 with d, i;");
        takes(C_ADDI, 0, 0, 0);
        for (int i : new int[] {-32, -1, 1, 31}) {
            takes(C_ADDI, 1, i, 0);
            takes(C_ADDI, 26, i, 0);
            refuses(C_ADDI, 0, i, 0);
        }
        for (int i : new int[] {LOW, -33, 0, 32, HIGH}) {
            refuses(C_ADDI, 1, i, 0);
        }
        for (int r : NO_REGISTERS) {
            refuses(C_ADDI, r, 1, 0);
            refuses(C_ADDI, r, 0, 0);
        }
    }

    void shortMoves() {
        term("4", "14 with d, t;");
        takes(C_MV, 1, 26, 0);
        takes(C_MV, 26, 1, 0);
        refuses(C_MV, 0, 1, 0);
        refuses(C_MV, 1, 0, 0);
        refuses(C_MV, 0, 0, 0);
        for (int r : NO_REGISTERS) {
            refuses(C_MV, r, 1, 0);
            refuses(C_MV, 1, r, 0);
        }
    }

    void calls() {
        term("4, 14", "15 CALL a service (0 READ, 1 WRITE, 2 EXIT);");
        for (int service = 0; service <= 2; service++) {
            takes(CALL, service, 0, 0);
        }
        for (int service : new int[] {LOW, -1, 3, 16, 32, HIGH}) {
            refuses(CALL, service, 0, 0);
        }
        FencedCode x = built(CALL, READ, 0, 0, CALL, WRITE, 0, 0, CALL, EXIT, 0, 0);
        x.input(44);
        is("trial(9)", x.trial(9), 1);
        is("output(1, 0)", x.output(TRIAL, 0), 44);
        is("run(99)", x.run(99), 1);
        is("output(0, 0)", x.output(RUN, 0), 44);
    }

    void addresses() {
        term("4", "16 ADDRESS d, a target.");
        takesTargets(ADDRESS);
    }

    void noReservedRegister() {
        term("4", "No register of a line is reserved.");
        for (int r = 27; r <= 31; r++) {
            for (int kind = ADD; kind <= ADDRESS; kind++) {
                if (kind != CALL) {
                    refuses(kind, r, 1, 1);
                }
                if (kind <= ADDI || kind == LW || kind == SW || kind >= BEQ && kind <= BLT || kind == JALR
                        || kind == C_MV) {
                    refuses(kind, 1, r, 1);
                }
                if (kind <= OR) {
                    refuses(kind, 1, 1, r);
                }
            }
        }
        takes(LUI, 1, 31, 0);
        takes(ADDI, 1, 1, 31);
        takes(C_ADDI, 1, 31, 0);
    }
}
