/** Promise 11: check. */
public final class CheckTest {
    private static final Due due = new Due();
    private static final int RIGHT = -1;
    private static final int HALF_NOP = 1;
    private static final int NOP = 19;
    private static final int MASK = e(2, 31, 31, 29);
    private static final int BASE = e(3, 31, 31, 28);
    private static final int LOAD = e(6, 5, 31, 0);
    private static final int STORE = e(7, 5, 31, 0);
    private static final int CODE_MASK = e(2, 31, 5, 27);
    private static final int LEAP = e(12, 0, 31, 0);

    private static int e(int kind, int a, int b, int c) {
        return new FencedCode().encode(kind, a, b, c);
    }

    /** These from 48 on, in a code of 96 bytes that is ADDI 0, 0, 0 else. */
    private static void check(String name, int want, int... instructions) {
        due.is(name, Due.code(96, instructions).check(), want);
    }

    private static void lengths() {
        for (int n = 0; n <= 256; n++) {
            FencedCode x = new FencedCode();
            x.length(n);
            for (int i = 48; i < n; i++) {
                x.poke(i, i % 2 == 0 ? 1 : 0);
            }
            due.is("a length of " + n, x.check(), n > 48 && n % 16 == 0 ? RIGHT : 48);
        }
        FencedCode x = Due.blank(64);
        for (int i = 0; i < 48; i++) {
            x.poke(i, 255);
        }
        due.is("what stands at the services", x.check(), RIGHT);
    }

    private static void brokenOnes() {
        check("nothing wrong", RIGHT);
        check("illegal half", 48, 0);
        check("illegal half behind a half", 50, HALF_NOP, 0);
        check("illegal word", 52, NOP, 115);
        check("over a bundle's end", 62, NOP, NOP, NOP, HALF_NOP, NOP, HALF_NOP);
        check("a half up to a bundle's end", RIGHT, NOP, NOP, NOP, HALF_NOP, HALF_NOP);
        check("illegal and over a bundle's end", 62, NOP, NOP, NOP, HALF_NOP, 115, HALF_NOP);
        check("one that is broken, behind one that is not safe", 52, LEAP, 0);
        check("the first of two broken ones", 52, LOAD, 0, 0);
        FencedCode x = Due.blank(64);
        x.poke(60, 1);
        x.poke(62, 19);
        due.is("a word over the code's end", x.check(), 62);
    }

    private static void reserved() {
        for (int d = 0; d <= 31; d++) {
            int want = d > 26 ? 48 : RIGHT;
            check("ADD " + d, want, e(0, d, 1, 2));
            check("SUB " + d, want, e(1, d, 1, 2));
            check("AND " + d, want, e(2, d, 31, 29) == MASK ? e(2, d, 31, 30) : e(2, d, 31, 29));
            check("OR " + d, want, e(3, d, 31, 28) == BASE ? e(3, d, 30, 28) : e(3, d, 31, 28));
            check("ADDI " + d, d == 31 ? RIGHT : want, e(4, d, 7, -5));
            check("LUI " + d, want, e(5, d, 1, 0));
            check("LW " + d, d > 26 ? 56 : RIGHT, MASK, BASE, e(6, d, 31, 0));
            check("SW " + d, RIGHT, MASK, BASE, e(7, d, 31, 0));
            check("BEQ " + d, RIGHT, e(8, d, 31, 0));
            check("JAL " + d, want, e(11, d, 4, 0));
            check("JALR " + d, d > 26 ? 52 : RIGHT, CODE_MASK, e(12, d, 31, 0));
            if (d > 0) {
                check("C.ADDI " + d, want, e(13, d, 1, 0), HALF_NOP);
                check("C.MV " + d, want, e(14, d, 31, 0), HALF_NOP);
            }
            check("AND 31, s, 27", RIGHT, e(2, 31, d, 27));
            check("ADDI 31, s, i", RIGHT, e(4, 31, d, 2047));
            check("AND 31, s, 29", d == 31 ? RIGHT : 48, e(2, 31, d, 29));
            check("AND 31, 31, t", d == 27 || d == 29 ? RIGHT : 48, e(2, 31, 31, d));
            check("OR 31, s, 28", d == 31 ? RIGHT : 48, e(3, 31, d, 28));
            check("OR 31, 31, t", d == 28 ? RIGHT : 48, e(3, 31, 31, d));
            check("AND d, d, 27", d > 26 && d < 31 ? 48 : RIGHT, e(2, d, d, 27));
        }
        check("AND with 27 first", 48, e(2, 31, 27, 5));
        check("ADD 31", 48, e(0, 31, 31, 28));
    }

    private static void loadsAndStores() {
        for (int at : new int[] {LOAD, STORE}) {
            check("fenced", RIGHT, MASK, BASE, at);
            check("fenced at a bundle's end", RIGHT, e(4, 31, 3, 4), MASK, BASE, at);
            check("fenced behind a half", RIGHT, HALF_NOP, MASK, BASE, at, HALF_NOP);
            check("alone", 48, at);
            check("base alone", 52, BASE, at);
            check("mask alone", 52, MASK, at);
            check("the other order", 56, BASE, MASK, at);
            check("something between", 60, MASK, BASE, NOP, at);
            check("something between the two", 60, MASK, NOP, BASE, at);
            check("a half between", 58, MASK, BASE, HALF_NOP, at, HALF_NOP);
            check("a half between the two", 58, MASK, HALF_NOP, BASE, at, HALF_NOP);
            check("twice behind one fence", 60, MASK, BASE, at, at);
            check("the fence in the bundle before", 64, NOP, NOP, MASK, BASE, at);
            check("half the fence in the bundle before", 68, NOP, NOP, NOP, MASK, BASE, at);
            check("with the code's mask", 56, CODE_MASK, BASE, at);
        }
        check("another number, load", 56, MASK, BASE, e(6, 5, 31, 4));
        check("another number, store", 56, MASK, BASE, e(7, 5, 31, -4));
        check("another number, store, lower bits", 56, MASK, BASE, e(7, 5, 31, 1));
        check("another register, load", 56, MASK, BASE, e(6, 5, 30, 0));
        check("another register, store", 56, MASK, BASE, e(7, 31, 5, 0));
    }

    private static void leaps() {
        check("masked", RIGHT, CODE_MASK, LEAP);
        check("masked, behind a half", RIGHT, HALF_NOP, CODE_MASK, LEAP, HALF_NOP);
        check("alone", 48, LEAP);
        check("something between", 56, CODE_MASK, NOP, LEAP);
        check("a half between", 54, CODE_MASK, HALF_NOP, LEAP, HALF_NOP);
        check("the mask in the bundle before", 64, NOP, NOP, NOP, CODE_MASK, LEAP);
        check("another mask", 52, MASK, LEAP);
        check("behind the base", 56, MASK, BASE, LEAP);
        check("another number", 52, CODE_MASK, e(12, 0, 31, 2));
        check("another register", 52, CODE_MASK, e(12, 0, 5, 0));
        check("twice behind one mask", 56, CODE_MASK, LEAP, LEAP);
        check("the mask of another register", 52, e(2, 5, 31, 27), LEAP);
    }

    private static void ways(String name, int want, int from, int to, int... instructions) {
        for (int kind = 8; kind <= 11; kind++) {
            FencedCode x = Due.code(96, instructions);
            int o = to - from;
            Due.put(x, from, kind == 11 ? e(11, 1, o, 0) : e(kind, 1, 2, o));
            due.is(name + ", kind " + kind, x.check(), want);
        }
    }

    private static void jumps() {
        for (int to = -64; to <= 160; to += 2) {
            boolean isService = to == 0 || to == 16 || to == 32;
            boolean begins = to >= 48 && to < 96 && to % 4 == 0;
            ways("from 64 to " + to, isService || begins ? RIGHT : 64, 64, to);
        }
        ways("to a half", RIGHT, 64, 50, HALF_NOP, HALF_NOP);
        ways("into a word behind a half", 64, 64, 52, HALF_NOP, NOP, HALF_NOP);
        ways("to a word behind a half", RIGHT, 64, 50, HALF_NOP, NOP, HALF_NOP);
        ways("to the number", RIGHT, 64, 48, e(4, 31, 3, 0), MASK, BASE, LOAD);
        ways("to the mask", RIGHT, 64, 52, e(4, 31, 3, 0), MASK, BASE, LOAD);
        ways("to the base", 64, 64, 56, e(4, 31, 3, 0), MASK, BASE, LOAD);
        ways("to the load", 64, 64, 60, e(4, 31, 3, 0), MASK, BASE, LOAD);
        ways("to the store", 64, 64, 60, e(4, 31, 3, 0), MASK, BASE, STORE);
        ways("to a base without a load", 64, 64, 52, NOP, BASE);
        ways("to the code's mask", RIGHT, 64, 48, CODE_MASK, LEAP);
        ways("to the leap", 64, 64, 52, CODE_MASK, LEAP);
        ways("to another OR", RIGHT, 64, 48, e(3, 5, 31, 28));
        ways("forward to the base", 48, 48, 84, NOP, NOP, NOP, NOP, NOP, NOP, NOP, NOP, MASK, BASE, STORE);
        ways("forward to the mask", RIGHT, 48, 80, NOP, NOP, NOP, NOP, NOP, NOP, NOP, NOP, MASK, BASE, STORE);
        check("far away", 48, e(11, 0, -1048576, 0));
        check("far away", 48, e(11, 0, 1048574, 0));
        check("far away", 48, e(8, 0, 0, -4096));
    }

    private static void firstOfTwo() {
        check("the first of two", 52, NOP, e(0, 27, 0, 0), LEAP);
        check("the first of two", 52, NOP, e(11, 0, 2, 0), e(0, 27, 0, 0));
        FencedCode x = Due.code(96, NOP, LEAP);
        due.is("check()", x.check(), 52);
        due.is("check() changes nothing", x.check(), 52);
        Due.put(x, 48, CODE_MASK);
        due.is("check() after a poke", x.check(), RIGHT);
        Due.put(x, 64, e(11, 0, 24, 0));
        due.is("a jump to 88", x.check(), RIGHT);
        x.length(80);
        due.is("what was there before is no longer", x.check(), 64);
    }

    private static void whatIsBuiltIsRight() {
        Due.Dice dice = new Due.Dice(11);
        int fitting = 0;
        for (int round = 0; round < 20000; round++) {
            int count = dice.between(0, 20);
            FencedCode x = Due.lines(RandomProgram.make(dice, count, count));
            if (x.build() > 0) {
                fitting++;
                due.is("round " + round + ": check()", x.check(), RIGHT);
            }
        }
        due.is("enough programs that fit", fitting > 5000, true);
    }

    /** What the check lets pass never meets illegal bits and never leaves the data. */
    private static void whatIsRightIsSafe() {
        Due.Dice dice = new Due.Dice(1111);
        int right = 0;
        for (int round = 0; round < 60000; round++) {
            int count = dice.between(1, 10);
            FencedCode x = Due.lines(RandomProgram.make(dice, count, count));
            if (x.build() < 0) {
                continue;
            }
            for (int n = dice.between(1, 4); n > 0; n--) {
                x.poke(dice.between(48, x.peek(-1) - 1), dice.below(256));
            }
            if (x.check() == RIGHT) {
                right++;
                due.is("round " + round + ": a safe end", x.run(200) <= 2, true);
                due.is("round " + round + ": 27", x.register(0, 27), 240);
                due.is("round " + round + ": 28", x.register(0, 28), 4096);
                due.is("round " + round + ": 29", x.register(0, 29), 60);
                due.is("round " + round + ": 30", x.register(0, 30), 0);
            }
        }
        due.is("enough codes that are right", right > 3000, true);
    }

    public static void main(String[] args) {
        lengths();
        brokenOnes();
        reserved();
        loadsAndStores();
        leaps();
        jumps();
        firstOfTwo();
        whatIsBuiltIsRight();
        whatIsRightIsSafe();
        due.end();
    }
}
