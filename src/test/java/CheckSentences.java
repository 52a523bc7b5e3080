/** Terms: THE CHECK. */
final class CheckSentences extends Sentences {
    private static final int MASK = e(AND, 31, 31, 29);
    private static final int BASE = e(OR, 31, 31, 28);
    private static final int CODE_MASK = e(AND, 31, 5, 27);
    private static final int LEAP = e(JALR, 0, 31, 0);
    private static final int[] MOVES = {e(LW, 5, 31, 0), e(SW, 5, 31, 0)};
    private static final int RIGHT = BAD;

    CheckSentences(Document document, Due due) {
        super(document, due);
    }

    /** These from 48 on, in a code of 96 bytes that is ADDI 0, 0, 0 else. */
    private void check(String name, int want, int... instructions) {
        is(name, Due.code(96, instructions).check(), want);
    }

    void fromFortyEightToTheEnd() {
        term("11", "THE CHECK goes over the code from address 48 to its end (whose length must be divisible by 16 and"
                + " above 48), instruction by instruction.");
        for (int n = 0; n <= 256; n++) {
            FencedCode x = new FencedCode();
            x.length(n);
            for (int i = 48; i < n; i += 2) {
                x.poke(i, 1);
            }
            is("a length of " + n, x.check(), n > 48 && n % 16 == 0 ? RIGHT : 48);
        }
        FencedCode before = Due.blank(64);
        for (int i = 0; i < 48; i++) {
            before.poke(i, 0);
        }
        is("what stands before 48", before.check(), RIGHT);
        FencedCode last = Due.blank(256);
        Due.put(last, 252, HALF_NOP, 0);
        is("the very last one", last.check(), 254);
        FencedCode inner = Due.code(64, e(ADDI, 5, 0, 0), e(LUI, 5, 0, 0));
        is("0 inside of an instruction is none", inner.check(), RIGHT);
    }

    void firstBrokenOne() {
        term("11", "If one is illegal, or goes over a bundle's end, the first such is the one that is not right.");
        check("an illegal half", 48, 0);
        check("an illegal word", 52, NOP, 115);
        check("over a bundle's end", 62, NOP, NOP, NOP, HALF_NOP, NOP, HALF_NOP);
        check("both", 62, NOP, NOP, NOP, HALF_NOP, 115, HALF_NOP);
        check("illegal, then over a bundle's end", 48, 0, HALF_NOP, NOP, NOP, HALF_NOP, NOP, HALF_NOP);
        check("over a bundle's end, then illegal", 62, NOP, NOP, NOP, HALF_NOP, NOP, 0);
        check("behind one that is not right else", 92, e(ADD, 31, 0, 0), LEAP, MOVES[0], e(JAL, 0, 2, 0), NOP, NOP,
                NOP, NOP, NOP, NOP, NOP, 0);
        FencedCode end = Due.blank(64);
        Due.put(end, 60, HALF_NOP);
        end.poke(62, 19);
        is("over the code's end", end.check(), 62);
    }

    void reservedRegisters() {
        term("11", "Otherwise it is the first one for which this holds: it changes a reserved register (d above 26)"
                + " other than by ADDI 31, s, i, by AND 31, 31, 29, by OR 31, 31, 28, or by AND 31, s, 27;");
        for (int d = 26; d <= 31; d++) {
            int want = d == 26 ? RIGHT : 48;
            check("ADD " + d, want, e(ADD, d, 31, 28));
            check("SUB " + d, want, e(SUB, d, 0, 0));
            check("AND " + d, want, e(AND, d, 31, 28));
            check("OR " + d, want, e(OR, d, 31, 29));
            check("ADDI " + d, d == 31 ? RIGHT : want, e(ADDI, d, d, 0));
            check("LUI " + d, want, e(LUI, d, 0, 0));
            check("LW " + d, want == RIGHT ? RIGHT : 56, MASK, BASE, e(LW, d, 31, 0));
            check("JAL " + d, want, e(JAL, d, 4, 0));
            check("JALR " + d, want == RIGHT ? RIGHT : 52, CODE_MASK, e(JALR, d, 31, 0));
            check("C.ADDI " + d, want, e(C_ADDI, d, 1, 0), HALF_NOP);
            check("C.MV " + d, want, e(C_MV, d, 1, 0), HALF_NOP);
            check("SW changes no register, " + d, RIGHT, MASK, BASE, e(SW, d, 31, 0));
            check("BEQ changes no register, " + d, RIGHT, e(BEQ, d, d, 4));
            check("AND " + d + ", 31, 29", d == 31 ? RIGHT : want, e(AND, d, 31, 29));
            check("OR " + d + ", 31, 28", d == 31 ? RIGHT : want, e(OR, d, 31, 28));
            check("AND " + d + ", 5, 27", d == 31 ? RIGHT : want, e(AND, d, 5, 27));
        }
        for (int s = 0; s <= 31; s++) {
            check("ADDI 31, " + s, RIGHT, e(ADDI, 31, s, -2048), e(ADDI, 31, s, 2047));
            check("AND 31, " + s + ", 27", RIGHT, e(AND, 31, s, 27));
            check("AND 31, " + s + ", 29", s == 31 ? RIGHT : 48, e(AND, 31, s, 29));
            check("AND 31, 31, " + s, s == 29 || s == 27 ? RIGHT : 48, e(AND, 31, 31, s));
            check("OR 31, " + s + ", 28", s == 31 ? RIGHT : 48, e(OR, 31, s, 28));
            check("OR 31, 31, " + s, s == 28 ? RIGHT : 48, e(OR, 31, 31, s));
        }
        check("the first of two", 52, NOP, e(ADD, 27, 0, 0), NOP, LEAP);
        check("the first of two", 52, NOP, e(JAL, 0, 2, 0), NOP, e(ADD, 27, 0, 0));
    }

    void movesGoThroughTheFencedRegister() {
        term("11", "it is LW or SW, and not with 0(31),");
        for (int i : new int[] {-2048, -4, -1, 1, 4, 31, 32, 2047}) {
            check("LW by " + i, 56, MASK, BASE, e(LW, 5, 31, i));
            check("SW by " + i, 56, MASK, BASE, e(SW, 5, 31, i));
        }
        for (int s = 0; s <= 31; s++) {
            check("LW from " + s, s == 31 ? RIGHT : 56, MASK, BASE, e(LW, 5, s, 0));
            check("SW from " + s, s == 31 ? RIGHT : 56, MASK, BASE, e(SW, 31, s, 0));
        }
    }

    void movesStandBehindTheirFence() {
        term("11", "or the two instructions right before it, in the same bundle, are not AND 31, 31, 29 and OR 31, 31,"
                + " 28;");
        for (int move : MOVES) {
            check("right before it", RIGHT, NOP, MASK, BASE, move);
            check("at a bundle's beginning", RIGHT, MASK, BASE, move);
            check("behind a half", RIGHT, HALF_NOP, MASK, BASE, move, HALF_NOP);
            check("none", 48, move);
            check("OR alone", 52, BASE, move);
            check("AND alone", 52, MASK, move);
            check("OR before AND", 56, BASE, MASK, move);
            check("AND twice", 56, MASK, MASK, move);
            check("OR twice", 56, BASE, BASE, move);
            check("one between", 60, MASK, BASE, NOP, move);
            check("one between the two", 60, MASK, NOP, BASE, move);
            check("a half between", 58, MASK, BASE, HALF_NOP, move, HALF_NOP);
            check("two moves", 60, MASK, BASE, move, move);
            check("both in the bundle before", 64, NOP, NOP, MASK, BASE, move);
            check("one in the bundle before", 68, NOP, NOP, NOP, MASK, BASE, move);
            check("the other mask", 56, e(AND, 31, 31, 27), BASE, move);
        }
    }

    void leapsGoThroughTheFencedRegister() {
        term("11", "it is JALR, and not with 31, 0,");
        for (int i : new int[] {-2048, -1, 1, 2, 2047}) {
            check("JALR by " + i, 52, CODE_MASK, e(JALR, 0, 31, i));
        }
        for (int s = 0; s <= 31; s++) {
            check("JALR to " + s, s == 31 ? RIGHT : 52, e(AND, 31, s, 27), e(JALR, 0, s, 0));
        }
    }

    void leapsStandBehindTheirMask() {
        term("11", "or the one right before it, in the same bundle, is not AND 31, s, 27;");
        check("right before it", RIGHT, NOP, NOP, CODE_MASK, LEAP);
        check("at a bundle's beginning", RIGHT, CODE_MASK, LEAP);
        check("behind a half", RIGHT, HALF_NOP, CODE_MASK, LEAP, HALF_NOP);
        for (int s = 0; s <= 31; s++) {
            check("AND 31, " + s + ", 27", RIGHT, e(AND, 31, s, 27), LEAP);
        }
        check("none", 48, LEAP);
        check("one between", 56, CODE_MASK, NOP, LEAP);
        check("a half between", 54, CODE_MASK, HALF_NOP, LEAP, HALF_NOP);
        check("two leaps", 56, CODE_MASK, LEAP, LEAP);
        check("in the bundle before", 64, NOP, NOP, NOP, CODE_MASK, LEAP);
        check("the data's mask", 52, MASK, LEAP);
        check("of another register", 52, e(AND, 5, 31, 27), LEAP);
        check("27 as s", 48, e(AND, 31, 27, 5), LEAP);
    }

    /** A jump of each kind from one address to another in this code. */
    private void ways(String name, int want, int from, int to, int... instructions) {
        for (int kind = BEQ; kind <= JAL; kind++) {
            FencedCode x = Due.code(96, instructions);
            Due.put(x, from, kind == JAL ? e(JAL, 1, to - from, 0) : e(kind, 1, 2, to - from));
            is(name + ", kind " + kind, x.check(), want);
        }
    }

    void jumpsLeadToInstructions() {
        term("11", "it is JAL or a branch, and where it leads is neither a service's address nor the beginning of one"
                + " of the instructions,");
        for (int to = -32; to <= 128; to += 2) {
            boolean service = to == 0 || to == 16 || to == 32;
            boolean begins = to >= 48 && to < 96 && to % 4 == 0;
            ways("to " + to, service || begins ? RIGHT : 64, 64, to);
        }
        ways("to itself", RIGHT, 64, 64);
        ways("to the last one", RIGHT, 48, 92);
        ways("to the code's end", 48, 48, 96);
        FencedCode shorter = Due.code(96, e(JAL, 0, 32, 0));
        is("to 80 of 96", shorter.check(), RIGHT);
        shorter.length(80);
        is("to 80 of 80, where there was one before", shorter.check(), 48);
        ways("to a half", RIGHT, 64, 50, HALF_NOP, HALF_NOP);
        ways("into a word", 64, 64, 52, HALF_NOP, NOP, HALF_NOP);
        ways("as far back as a branch can", 48, 48, 48 - 4096);
        ways("as far on as a branch can", 48, 48, 48 + 4094);
        check("as far back as JAL can", 48, e(JAL, 0, -1048576, 0));
        check("as far on as JAL can", 48, e(JAL, 0, 1048574, 0));
    }

    void jumpsDoNotLeadBehindAMask() {
        term("11", "or that is an OR 31, 31, 28, an LW, an SW or a JALR.");
        for (int move : MOVES) {
            ways("to ADDI", RIGHT, 64, 48, e(ADDI, 31, 5, 0), MASK, BASE, move);
            ways("to AND", RIGHT, 64, 52, e(ADDI, 31, 5, 0), MASK, BASE, move);
            ways("to OR", 64, 64, 56, e(ADDI, 31, 5, 0), MASK, BASE, move);
            ways("to LW or SW", 64, 64, 60, e(ADDI, 31, 5, 0), MASK, BASE, move);
        }
        ways("to an OR 31, 31, 28 that stands alone", 64, 64, 48, BASE);
        ways("to another OR", RIGHT, 64, 48, e(OR, 26, 31, 28));
        ways("to AND 31, s, 27", RIGHT, 64, 48, CODE_MASK, LEAP);
        ways("to JALR", 64, 64, 52, CODE_MASK, LEAP);
        ways("to JALR with a link", 64, 64, 52, CODE_MASK, e(JALR, 1, 31, 0));
        ways("to OR, further on", 48, 48, 84, NOP, NOP, NOP, NOP, NOP, NOP, NOP, NOP, MASK, BASE, MOVES[0]);
    }
}
