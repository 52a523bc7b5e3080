/** Promises 6 and 7: build and address. */
public final class BuildTest {
    private static final Due due = new Due();

    /** The code from 48 on is just these instructions. */
    private static void built(String name, FencedCode x, int... instructions) {
        int at = 48;
        for (int bits : instructions) {
            due.is(name + ", at " + at, Due.bitsAt(x, at), bits);
            at += Due.size(bits);
        }
        due.is(name + ", length", x.peek(-1), at);
        for (int i = 0; i < 48; i++) {
            due.is(name + ", byte " + i, x.peek(i), 0);
        }
    }

    private static int e(int kind, int a, int b, int c) {
        return new FencedCode().encode(kind, a, b, c);
    }

    private static final int NOP = 19;
    private static final int HALF_NOP = 1;

    private static void groups() {
        FencedCode x = Due.lines(13, 5, 1, 0, 6, 3, 4, -8, 7, 3, 4, 2047);
        due.is("build()", x.build(), 112);
        built("load and store", x, e(13, 5, 1, 0), HALF_NOP, NOP, NOP, NOP,
                e(4, 31, 4, -8), e(2, 31, 31, 29), e(3, 31, 31, 28), e(6, 3, 31, 0),
                e(4, 31, 4, 2047), e(2, 31, 31, 29), e(3, 31, 31, 28), e(7, 3, 31, 0),
                NOP, NOP, NOP, NOP);
        due.is("address(1)", x.address(1), 50);
        due.is("address(2)", x.address(2), 80);
        due.is("address(3)", x.address(3), 96);
    }

    private static void indirectJumps() {
        FencedCode x = Due.lines(13, 5, 1, 0, 12, 0, 4, 0, 12, 0, 4, 0, 12, 7, 4, 0, 12, 7, 4, 0);
        due.is("build()", x.build(), 112);
        built("line 12", x, e(13, 5, 1, 0), e(2, 31, 4, 27), e(12, 0, 31, 0), HALF_NOP, NOP,
                e(2, 31, 4, 27), e(12, 0, 31, 0), e(2, 31, 4, 27), e(12, 7, 31, 0),
                NOP, NOP, e(2, 31, 4, 27), e(12, 7, 31, 0), NOP, NOP, NOP, NOP);
        due.is("address(1)", x.address(1), 50);
        due.is("address(2)", x.address(2), 58);
        due.is("address(3)", x.address(3), 72);
        due.is("address(4)", x.address(4), 80);
        due.is("address(5)", x.address(5), 96);
    }

    private static void jumpsAndCalls() {
        FencedCode x = Due.lines(11, 0, 3, 0, 11, 2, 0, 0, 15, 2, 0, 0, 15, 1, 0, 0, 9, 1, 2, 4, 10, 3, 4, 6);
        due.is("build()", x.build(), 112);
        built("lines 8 to 11 and 15", x, e(11, 0, 32, 0), NOP, NOP, e(11, 2, -12, 0),
                NOP, NOP, NOP, e(11, 1, 32 - 76, 0), NOP, NOP, NOP, e(11, 1, 16 - 92, 0),
                e(9, 1, 2, 0), e(10, 3, 4, 4), NOP, NOP);
        due.is("address(2)", x.address(2), 64);
        due.is("address(6)", x.address(6), 104);
    }

    private static void addresses() {
        FencedCode x = Due.lines(16, 3, 2, 0, 16, 4, 4, 0, 13, 1, 1, 0, 15, 0, 0, 0);
        due.is("build()", x.build(), 96);
        built("line 16", x, e(4, 3, 0, 64), e(4, 4, 0, 80), NOP, NOP,
                e(13, 1, 1, 0), HALF_NOP, NOP, NOP, e(11, 1, -76, 0), NOP, NOP, NOP, NOP);
        due.is("address(2)", x.address(2), 64);
        due.is("address(3)", x.address(3), 66);
        due.is("address(4)", x.address(4), 80);
        FencedCode end = Due.lines(13, 1, 1, 0, 16, 3, 2, 0);
        due.is("build()", end.build(), 80);
        built("a taken end", end, e(13, 1, 1, 0), e(4, 3, 0, 64), HALF_NOP, NOP, NOP, NOP, NOP, NOP, NOP);
        due.is("address(2)", end.address(2), 64);
        FencedCode none = Due.lines(16, 3, 0, 0);
        due.is("build()", none.build(), 64);
        built("no padding where a bundle begins", none, e(4, 3, 0, 48), NOP, NOP, NOP);
    }

    private static void plainLines() {
        FencedCode x = Due.lines(0, 1, 2, 3, 1, 1, 2, 3, 2, 1, 2, 3, 13, 4, -3, 0, 3, 1, 2, 3, 4, 5, 6, -7,
                5, 8, 1048575, 0, 14, 9, 10, 0, 8, 1, 2, 0);
        due.is("build()", x.build(), 96);
        built("others themselves", x, e(0, 1, 2, 3), e(1, 1, 2, 3), e(2, 1, 2, 3), e(13, 4, -3, 0), HALF_NOP,
                e(3, 1, 2, 3), e(4, 5, 6, -7), e(5, 8, 1048575, 0), e(14, 9, 10, 0), HALF_NOP,
                e(8, 1, 2, -32), NOP, NOP, NOP);
        due.is("an address before the line's own padding", x.address(4), 62);
        due.is("address(8)", x.address(8), 78);
    }

    private static void empty() {
        FencedCode x = new FencedCode();
        due.is("build()", x.build(), 64);
        built("no lines", x, NOP, NOP, NOP, NOP);
        due.is("address(0)", x.address(0), 48);
        due.is("address(1)", x.address(1), -1);
        due.is("address(-1)", x.address(-1), -1);
    }

    private static void badTargets() {
        for (int kind : new int[] {8, 9, 10}) {
            FencedCode x = Due.lines(kind, 0, 0, 2);
            due.is("build()", x.build(), -1);
            due.is("address(0)", x.address(0), -1);
            due.is("peek(-1)", x.peek(-1), 0);
            x.line(13, 0, 0, 0);
            due.is("build() with two lines", x.build(), 64);
        }
        for (int kind : new int[] {11, 16}) {
            FencedCode x = Due.lines(kind, 0, 2, 0);
            due.is("build()", x.build(), -1);
            x.line(13, 0, 0, 0);
            due.is("build() with two lines", x.build() > 0, true);
        }
        FencedCode free = Due.lines(12, 20, 20, 20, 0, 20, 20, 20, 6, 20, 20, 20, 5, 1, 20, 20, 15, 2, 20, 20);
        due.is("numbers that are no targets", free.build() > 0, true);
    }

    private static FencedCode loads(int n) {
        FencedCode x = new FencedCode();
        for (int i = 0; i < n; i++) {
            x.line(6, 1, 1, 0);
        }
        return x;
    }

    private static void fits() {
        due.is("12 loads", loads(12).build(), 256);
        due.is("13 loads: a bundle behind the end", loads(13).build(), -2);
        due.is("20 loads", loads(20).build(), -2);
        FencedCode x = loads(12);
        for (int i = 1; i <= 7; i++) {
            x.line(13, 1, 1, 0);
            due.is("12 loads and " + i + " halves", x.build(), 256);
        }
        x.line(13, 1, 1, 0);
        due.is("12 loads and 8 halves", x.build(), -2);
        due.is("the addresses stay", x.address(19), 254);
        due.is("of 20 lines none", x.address(20), -1);
        FencedCode bad = loads(13);
        bad.line(8, 0, 0, 20);
        due.is("BAD before FULL", bad.build(), -1);
    }

    private static void failedBuildsChangeNothing() {
        FencedCode x = Due.lines(4, 3, 0, 9, 15, 2, 0, 0);
        x.build();
        x.poke(48, 77);
        x.line(8, 0, 0, 20);
        due.is("build()", x.build(), -1);
        due.is("peek(48)", x.peek(48), 77);
        due.is("peek(-1)", x.peek(-1), 80);
        due.is("address(2)", x.address(2), 64);
        due.is("address(3)", x.address(3), -1);
        x.clear();
        for (int i = 0; i < 13; i++) {
            x.line(6, 1, 1, 0);
        }
        due.is("build()", x.build(), -2);
        due.is("peek(48)", x.peek(48), 77);
        due.is("peek(-1)", x.peek(-1), 80);
        due.is("address(2)", x.address(2), 64);
        due.is("address(3)", x.address(3), -1);
        due.is("trial(9)", x.trial(9), 1);
        due.is("register(1, 3)", x.register(1, 3), 9);
        x.clear();
        due.is("lines alone change no address", x.address(2), 64);
        due.is("build()", x.build(), 64);
        due.is("peek(48)", x.peek(48), 19);
        due.is("address(1)", x.address(1), -1);
        due.is("trial(9)", x.trial(9), 2);
    }

    private static void againstTheModel() {
        Due.Dice dice = new Due.Dice(6);
        int fitting = 0;
        for (int round = 0; round < 4000; round++) {
            int count = dice.between(0, 20);
            int[] lines = RandomProgram.make(dice, count, count);
            FencedCode x = Due.lines(lines);
            RewriteModel model = new RewriteModel(lines);
            if (model.size > 256) {
                due.is("round " + round + ": build()", x.build(), -2);
                due.is("round " + round + ": peek(-1)", x.peek(-1), 0);
                continue;
            }
            fitting++;
            due.is("round " + round + ": build()", x.build(), model.size);
            for (int i = 0; i < model.size; i++) {
                due.is("round " + round + ": peek(" + i + ")", x.peek(i), model.bytes.get(i));
            }
            for (int target = 0; target <= count; target++) {
                due.is("round " + round + ": address(" + target + ")", x.address(target), model.addresses[target]);
            }
            due.is("round " + round + ": address(count + 1)", x.address(count + 1), -1);
        }
        due.is("enough programs that fit", fitting > 1000, true);
    }

    public static void main(String[] args) {
        groups();
        indirectJumps();
        jumpsAndCalls();
        addresses();
        plainLines();
        empty();
        badTargets();
        fits();
        failedBuildsChangeNothing();
        againstTheModel();
        due.end();
    }
}
