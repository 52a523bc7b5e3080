/** Terms: REWRITING, PADDING and what does not FIT. */
final class RewritingSentences extends Sentences {
    private static final int MASK = e(AND, 31, 31, 29);
    private static final int BASE = e(OR, 31, 31, 28);

    RewritingSentences(Document document, Due due) {
        super(document, due);
    }

    /** So many halves, and then these lines. */
    private static FencedCode behindHalves(int n, int... lines) {
        FencedCode x = halves(n);
        for (int i = 0; i < lines.length; i += 4) {
            x.line(lines[i], lines[i + 1], lines[i + 2], lines[i + 3]);
        }
        return x;
    }

    void linesInTheirOrder() {
        term("6, 7", "REWRITING. Lines become instructions from address 48 on, in their order.");
        FencedCode x = built(ADDI, 1, 0, 1, ADDI, 2, 0, 2, ADDI, 3, 0, 3, ADDI, 4, 0, 4, ADDI, 5, 0, 5);
        codeIs("five lines", x, e(ADDI, 1, 0, 1), e(ADDI, 2, 0, 2), e(ADDI, 3, 0, 3), e(ADDI, 4, 0, 4),
                e(ADDI, 5, 0, 5), NOP, NOP, NOP);
        is("address(0)", x.address(0), 48);
        is("address(4)", x.address(4), 64);
        is("no lines: address(0)", built().address(0), 48);
    }

    void loadsAreGroups() {
        term("6", "6 becomes the GROUP ADDI 31, s, i; AND 31, 31, 29; OR 31, 31, 28; LW d, 0(31),");
        for (int i : new int[] {-2048, 0, 2047}) {
            codeIs("LW 26", built(LW, 26, 0, i), e(ADDI, 31, 0, i), MASK, BASE, e(LW, 26, 31, 0), NOP, NOP, NOP, NOP);
            codeIs("LW 0", built(LW, 0, 26, i), e(ADDI, 31, 26, i), MASK, BASE, e(LW, 0, 31, 0), NOP, NOP, NOP, NOP);
        }
    }

    void storesAreGroups() {
        term("6", "7 likewise with SW t, 0(31);");
        for (int i : new int[] {-2048, 0, 2047}) {
            codeIs("SW 26", built(SW, 26, 0, i), e(ADDI, 31, 0, i), MASK, BASE, e(SW, 26, 31, 0), NOP, NOP, NOP, NOP);
            codeIs("SW 0", built(SW, 0, 26, i), e(ADDI, 31, 26, i), MASK, BASE, e(SW, 0, 31, 0), NOP, NOP, NOP, NOP);
        }
    }

    void leapsAreMasked() {
        term("6", "12 becomes AND 31, s, 27; JALR d, 31, 0;");
        codeIs("JALR 0, 26", built(JALR, 0, 26, 0), e(AND, 31, 26, 27), e(JALR, 0, 31, 0), NOP, NOP);
        codeIs("JALR 26, 0", built(JALR, 26, 0, 0), NOP, NOP, e(AND, 31, 0, 27), e(JALR, 26, 31, 0),
                NOP, NOP, NOP, NOP);
    }

    void callsAreJumps() {
        term("6", "15 JAL 1, to the service's address;");
        for (int service = 0; service <= 2; service++) {
            codeIs("service " + service, built(CALL, service, 0, 0), NOP, NOP, NOP,
                    e(JAL, 1, service * 16 - 60, 0), NOP, NOP, NOP, NOP);
            FencedCode last = bundles(11);
            last.line(CALL, service, 0, 0);
            is("build()", last.build(), 256);
            is("the last one that fits", Due.bitsAt(last, 236), e(JAL, 1, service * 16 - 236, 0));
        }
    }

    void addressesAreNumbers() {
        term("6", "16 ADDI d, 0, the target's address;");
        codeIs("the lowest", built(ADDRESS, 26, 0, 0), e(ADDI, 26, 0, 48), NOP, NOP, NOP);
        FencedCode x = Due.lines(ADDRESS, 3, 12, 0);
        for (int i = 0; i < 11; i++) {
            x.line(LW, 1, 20, 0);
        }
        is("build()", x.build(), 256);
        is("the highest", Due.bitsAt(x, 48), e(ADDI, 3, 0, 240));
        codeIs("with d 0", built(ADDRESS, 0, 0, 0), e(ADDI, 0, 0, 48), NOP, NOP, NOP);
    }

    void othersStay() {
        term("6", "the others themselves.");
        codeIs("0 to 3", built(ADD, 1, 2, 3, SUB, 4, 5, 6, AND, 7, 8, 9, OR, 10, 11, 12),
                e(ADD, 1, 2, 3), e(SUB, 4, 5, 6), e(AND, 7, 8, 9), e(OR, 10, 11, 12), NOP, NOP, NOP, NOP);
        codeIs("4, 5, 13, 14", built(ADDI, 1, 2, -2048, LUI, 26, 1048575, 0, C_ADDI, 26, -32, 0, C_MV, 26, 1, 0),
                e(ADDI, 1, 2, -2048), e(LUI, 26, 1048575, 0), e(C_ADDI, 26, -32, 0), e(C_MV, 26, 1, 0), NOP);
        codeIs("8 to 11", built(BEQ, 1, 2, 0, BNE, 3, 4, 4, BLT, 5, 6, 2, JAL, 0, 1, 0),
                e(BEQ, 1, 2, 0), e(BNE, 3, 4, 12), e(BLT, 5, 6, 0), e(JAL, 0, -8, 0), NOP, NOP, NOP, NOP);
    }

    void takenTargetsBeginBundles() {
        term("6, 7", "For each line, and for the end: if its number is the target of a line 16, PADDING comes up to a"
                + " bundle's beginning (none, if one begins there).");
        for (int n = 0; n <= 16; n++) {
            int[] taken = {ADDRESS, 1, n + 1, 0, ADDI, 1, 0, 1};
            FencedCode x = behindHalves(n, taken);
            is("build()", x.build() > 0, true);
            int behind = n == 7 ? 68 : n == 15 ? 84 : 52 + 2 * n;
            is("a line behind " + n + " halves", x.address(n + 1), behind + 15 & -16);
            FencedCode end = behindHalves(n, ADDRESS, 1, n + 1, 0);
            is("build()", end.build(), (behind + 15 & -16) + 16);
            is("the end behind " + n + " halves", end.address(n + 1), behind + 15 & -16);
        }
        is("none at the first line", built(ADDRESS, 1, 0, 0).address(0), 48);
        FencedCode other = built(C_ADDI, 1, 1, 0, BEQ, 0, 0, 2, JAL, 0, 1, 0);
        is("other targets need none", other.address(1), 50);
        is("other targets need none", other.address(2), 54);
    }

    void addressIsBeforeOwnPadding() {
        term("6, 7", "What is reached then is the target's ADDRESS.");
        FencedCode x = built(C_ADDI, 1, 1, 0, LW, 1, 20, 0, CALL, WRITE, 0, 0, JAL, 0, 1, 0);
        is("a line with padding of its own", x.address(1), 50);
        is("its instructions", Due.bitsAt(x, 64), e(ADDI, 31, 20, 0));
        is("a call", x.address(2), 80);
        is("its instruction", Due.bitsAt(x, 92), e(JAL, 1, 16 - 92, 0));
        is("a jump leads to the address", Due.bitsAt(x, 96), e(JAL, 0, 50 - 96, 0));
        FencedCode taken = built(ADDRESS, 3, 1, 0, CALL, READ, 0, 0);
        is("a call whose address is taken", taken.address(1), 64);
        is("its number", Due.bitsAt(taken, 48), e(ADDI, 3, 0, 64));
    }

    /** The least padding, tried out one by one; the line begins behind halves that are in one bundle. */
    private static int least(int from, int size, boolean ends) {
        for (int padding = 0; padding < 32; padding += 2) {
            int at = from + padding;
            boolean over = at % 16 + size > 16;
            if (!over && (!ends || (at + size) % 16 == 0)) {
                return padding;
            }
        }
        throw new IllegalStateException("no padding will do");
    }

    /** Behind 0 .. 8 halves; the line behind it tells where it ends. */
    private void endsAsDue(int size, boolean ends, int kind, int a, int b, int c) {
        for (int n = 0; n <= 8; n++) {
            FencedCode x = behindHalves(n, kind, a, b, c);
            is("build()", x.build() > 0, true);
            int padding = least(48 + 2 * n, size, ends);
            is("kind " + kind + " behind " + n + " halves", x.address(n + 1), 48 + 2 * n + padding + size);
        }
    }

    void whatComesBackEndsABundle() {
        term("6", "Then, for a line, comes the padding that it needs itself: a line that is 15, or 11 or 12 with d not"
                + " 0, must end with a bundle;");
        for (int service = 0; service <= 2; service++) {
            endsAsDue(4, true, CALL, service, 0, 0);
        }
        for (int d : new int[] {1, 26}) {
            endsAsDue(4, true, JAL, d, 0, 0);
            endsAsDue(8, true, JALR, d, 5, 0);
        }
        endsAsDue(4, false, JAL, 0, 0, 0);
        endsAsDue(8, false, JALR, 0, 5, 0);
        codeIs("none, if it ends one", built(ADDI, 1, 0, 1, ADDI, 1, 0, 1, ADDI, 1, 0, 1, JAL, 1, 0, 0),
                e(ADDI, 1, 0, 1), e(ADDI, 1, 0, 1), e(ADDI, 1, 0, 1), e(JAL, 1, -12, 0), NOP, NOP, NOP, NOP);
        FencedCode over = behindHalves(7, CALL, READ, 0, 0);
        is("at 62 it goes into the next bundle", over.build(), 96);
        is("at 62 it goes into the next bundle", Due.bitsAt(over, 76), e(JAL, 1, -76, 0));
    }

    void nothingGoesOverABundlesEnd() {
        term("6, 11", "no instruction and no group may go over a bundle's end;");
        for (int kind = ADD; kind <= LUI; kind++) {
            endsAsDue(4, false, kind, 1, 2, 3);
        }
        for (int kind = BEQ; kind <= BLT; kind++) {
            endsAsDue(4, false, kind, 1, 2, 0);
        }
        endsAsDue(4, false, ADDRESS, 1, 0, 0);
        endsAsDue(16, false, LW, 1, 2, 0);
        endsAsDue(16, false, SW, 1, 2, 0);
        endsAsDue(8, false, JALR, 0, 2, 0);
        endsAsDue(2, false, C_ADDI, 1, 1, 0);
        endsAsDue(2, false, C_MV, 1, 1, 0);
        codeIs("a word at 62", behindBuilt(7, ADDI, 1, 0, 5), HALF_NOP, HALF_NOP, HALF_NOP, HALF_NOP, HALF_NOP,
                HALF_NOP, HALF_NOP, HALF_NOP, e(ADDI, 1, 0, 5), NOP, NOP, NOP);
        codeIs("a half at 62", behindBuilt(7, C_ADDI, 1, 5, 0), HALF_NOP, HALF_NOP, HALF_NOP, HALF_NOP, HALF_NOP,
                HALF_NOP, HALF_NOP, e(C_ADDI, 1, 5, 0), NOP, NOP, NOP, NOP);
    }

    private static FencedCode behindBuilt(int n, int... line) {
        FencedCode x = behindHalves(n, line);
        x.build();
        return x;
    }

    void noMorePaddingThanNeeded() {
        term("6", "as little padding as will do.");
        codeIs("a call at 62 gets 14 bytes", behindBuilt(7, CALL, READ, 0, 0), HALF_NOP, HALF_NOP, HALF_NOP, HALF_NOP,
                HALF_NOP, HALF_NOP, HALF_NOP, HALF_NOP, NOP, NOP, NOP, e(JAL, 1, -76, 0), NOP, NOP, NOP, NOP);
        codeIs("a call at 60 gets none", behindBuilt(6, CALL, READ, 0, 0), HALF_NOP, HALF_NOP, HALF_NOP, HALF_NOP,
                HALF_NOP, HALF_NOP, e(JAL, 1, -60, 0), NOP, NOP, NOP, NOP);
        codeIs("a leap at 56 gets none", behindBuilt(4, JALR, 1, 5, 0), HALF_NOP, HALF_NOP, HALF_NOP, HALF_NOP,
                e(AND, 31, 5, 27), e(JALR, 1, 31, 0), NOP, NOP, NOP, NOP);
        codeIs("a leap at 58 gets 14 bytes", behindBuilt(5, JALR, 1, 5, 0), HALF_NOP, HALF_NOP, HALF_NOP, HALF_NOP,
                HALF_NOP, HALF_NOP, NOP, NOP, NOP, e(AND, 31, 5, 27), e(JALR, 1, 31, 0), NOP, NOP, NOP, NOP);
        codeIs("a load at 48 gets none", built(LW, 1, 2, 3), e(ADDI, 31, 2, 3), MASK, BASE, e(LW, 1, 31, 0),
                NOP, NOP, NOP, NOP);
        codeIs("a load at 62 gets 2 bytes", behindBuilt(7, LW, 1, 2, 3), HALF_NOP, HALF_NOP, HALF_NOP, HALF_NOP,
                HALF_NOP, HALF_NOP, HALF_NOP, HALF_NOP, e(ADDI, 31, 2, 3), MASK, BASE, e(LW, 1, 31, 0),
                NOP, NOP, NOP, NOP);
    }

    void instructionsComeBehindBothPaddings() {
        term("6", "Then its instructions.");
        FencedCode x = built(C_ADDI, 1, 1, 0, ADDRESS, 3, 2, 0, CALL, WRITE, 0, 0);
        codeIs("the target's padding, the line's own, the line", x, e(C_ADDI, 1, 1, 0), e(ADDI, 3, 0, 64),
                HALF_NOP, NOP, NOP, NOP, NOP, NOP, e(JAL, 1, 16 - 76, 0), NOP, NOP, NOP, NOP);
        is("address(2)", x.address(2), 64);
    }

    void paddingBehindTheEnd() {
        term("6", "Behind the end comes padding up to the bundle's end, a whole bundle if one begins there.");
        for (int n = 0; n <= 20; n++) {
            FencedCode x = halves(n);
            is(n + " halves", x.build(), n < 8 ? 64 : n < 16 ? 80 : 96);
            is("address(" + n + ")", x.address(n), 48 + 2 * n);
        }
        codeIs("no lines", built(), NOP, NOP, NOP, NOP);
        codeIs("a bundle's worth", built(LUI, 1, 1, 0, LUI, 1, 1, 0, LUI, 1, 1, 0, LUI, 1, 1, 0), e(LUI, 1, 1, 0),
                e(LUI, 1, 1, 0), e(LUI, 1, 1, 0), e(LUI, 1, 1, 0), NOP, NOP, NOP, NOP);
        is("an end that is taken", built(ADDRESS, 1, 1, 0).peek(-1), 80);
    }

    void shortPaddingFirst() {
        term("6", "PADDING of n bytes: C.NOP first, if n is not divisible by 4, then ADDI 0, 0, 0.");
        for (int n = 0; n < 8; n++) {
            FencedCode x = new FencedCode();
            for (int i = 0; i < n; i++) {
                x.line(C_ADDI, 2, 3, 0);
            }
            x.build();
            int at = 48 + 2 * n;
            if (n % 2 == 1) {
                is("C.NOP first, of " + (64 - at), Due.bitsAt(x, at), HALF_NOP);
                at += 2;
            }
            for (; at < 64; at += 4) {
                is("ADDI 0, 0, 0 at " + at, Due.bitsAt(x, at), NOP);
            }
        }
        FencedCode twice = built(C_ADDI, 2, 3, 0, ADDRESS, 3, 2, 0, C_MV, 2, 3, 0, CALL, READ, 0, 0);
        codeIs("two paddings, each of its own", twice, e(C_ADDI, 2, 3, 0), e(ADDI, 3, 0, 64), HALF_NOP, NOP, NOP,
                e(C_MV, 2, 3, 0), HALF_NOP, NOP, NOP, e(JAL, 1, -76, 0), NOP, NOP, NOP, NOP);
    }

    void whatFits() {
        term("6", "It does not FIT if more than 256 bytes would be needed.");
        is("256 bytes with the padding behind the end", bundles(12).build(), 256);
        FencedCode last = bundles(12);
        for (int i = 0; i < 7; i++) {
            last.line(C_ADDI, 1, 1, 0);
        }
        is("254 bytes and 2 of padding", last.build(), 256);
        last.line(C_ADDI, 1, 1, 0);
        is("256 bytes and a bundle behind the end", last.build(), FULL);
        is("13 bundles and one behind the end", bundles(13).build(), FULL);
        is("20 bundles", bundles(20).build(), FULL);
        FencedCode taken = bundles(12);
        taken.line(ADDRESS, 1, 0, 0);
        is("with a word", taken.build(), 256);
        taken.clear();
        for (int i = 0; i < 12; i++) {
            taken.line(LW, 1, 20, 0);
        }
        taken.line(ADDRESS, 1, 13, 0);
        is("an end that is taken at 256", taken.build(), FULL);
    }
}
