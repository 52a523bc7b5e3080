/** Promise 14, with 15 to 18 of a trial. */
public final class TrialTest {
    private static final Due due = new Due();

    private static FencedCode built(int... lines) {
        FencedCode x = Due.lines(lines);
        if (x.build() < 0) {
            throw new IllegalStateException("does not build");
        }
        return x;
    }

    private static void stands(String name, FencedCode x, int steps, int line) {
        due.is(name + ": steps", x.state(1, 0), steps);
        due.is(name + ": line", x.state(1, 1), line);
    }

    private static void fuel() {
        FencedCode x = built(13, 1, 1, 0, 13, 1, 1, 0, 13, 1, 1, 0);
        for (int fuel = 0; fuel <= 3; fuel++) {
            due.is("trial(" + fuel + ")", x.trial(fuel), 0);
            stands("trial(" + fuel + ")", x, fuel, fuel);
            due.is("register 1", x.register(1, 1), fuel);
        }
        due.is("trial(4)", x.trial(4), 2);
        stands("the end", x, 3, 3);
        due.is("trial(2000)", x.trial(2000), 2);
        for (int fuel : new int[] {-1, 2001, Integer.MIN_VALUE, Integer.MAX_VALUE}) {
            due.is("trial(" + fuel + ")", x.trial(fuel), -1);
            stands("a BAD trial leaves all", x, 3, 3);
        }
        FencedCode loop = built(11, 0, 0, 0);
        due.is("trial(2000)", loop.trial(2000), 0);
        stands("a loop", loop, 2000, 0);
        FencedCode none = new FencedCode();
        due.is("no build", none.trial(0), 0);
        due.is("no build", none.trial(1), 2);
        stands("no build", none, 0, 0);
    }

    private static void theProgramOfTheLatestBuild() {
        FencedCode x = Due.lines(4, 3, 0, 7);
        due.is("lines that were not built", x.trial(5), 2);
        stands("lines that were not built", x, 0, 0);
        x.build();
        x.line(4, 3, 0, 8);
        due.is("trial(5)", x.trial(5), 2);
        stands("lines added since", x, 1, 1);
        due.is("register 3", x.register(1, 3), 7);
        x.clear();
        x.line(8, 0, 0, 20);
        due.is("build()", x.build(), -1);
        due.is("trial(5)", x.trial(5), 2);
        due.is("register 3", x.register(1, 3), 7);
        x.clear();
        due.is("build()", x.build(), 64);
        due.is("what is left stays", x.register(1, 3), 7);
        due.is("trial(5)", x.trial(5), 2);
        due.is("register 3", x.register(1, 3), 0);
    }

    private static void arithmetic() {
        FencedCode x = built(4, 1, 0, -5, 5, 2, 524288, 0, 0, 3, 1, 2, 1, 4, 1, 2, 2, 5, 1, 2, 3, 6, 1, 2,
                13, 7, -32, 0, 14, 8, 7, 0, 4, 0, 1, 1, 13, 0, 0, 0);
        due.is("trial(20)", x.trial(20), 2);
        int low = Integer.MIN_VALUE;
        int[] want = {0, -5, low, low - 5, -5 - low, -5 & low, -5 | low, -32, -32};
        for (int r = 0; r < want.length; r++) {
            due.is("register " + r, x.register(1, r), want[r]);
        }
        for (int r = 27; r <= 31; r++) {
            due.is("register " + r, x.register(1, r), 0);
        }
    }

    private static void branches() {
        int[] some = {-2, 0, 3};
        for (int s : some) {
            for (int t : some) {
                for (int kind = 8; kind <= 10; kind++) {
                    FencedCode x = built(4, 1, 0, s, 4, 2, 0, t, kind, 1, 2, 5, 13, 0, 0, 0, 13, 0, 0, 0);
                    boolean goes = kind == 8 ? s == t : kind == 9 ? s != t : s < t;
                    due.is("trial(3)", x.trial(3), 0);
                    stands("kind " + kind + " of " + s + ", " + t, x, 3, goes ? 5 : 3);
                }
            }
        }
        FencedCode x = built(8, 0, 0, 2, 13, 0, 0, 0);
        due.is("a jump to the end", x.trial(9), 2);
        stands("a jump to the end", x, 1, 2);
    }

    private static void linksAndAddresses() {
        FencedCode x = built(16, 3, 2, 0, 11, 4, 2, 0, 13, 5, 1, 0, 15, 0, 0, 0, 16, 6, 5, 0);
        due.is("trial(9)", x.trial(9), 2);
        due.is("the target's", x.register(1, 3), x.address(2));
        due.is("the target's", x.register(1, 3), 64);
        due.is("that of the next line, 11", x.register(1, 4), x.address(2));
        due.is("that of the next line, 15", x.register(1, 1), 80);
        due.is("the end's", x.register(1, 6), x.address(5));
        due.is("the end's", x.register(1, 6), 96);
        FencedCode zero = built(11, 0, 1, 0, 16, 0, 0, 0);
        due.is("trial(9)", zero.trial(9), 2);
        due.is("register 0", zero.register(1, 0), 0);
    }

    private static void leaps() {
        FencedCode x = built(16, 3, 3, 0, 12, 4, 3, 0, 13, 5, 1, 0, 13, 6, 1, 0);
        due.is("trial(9)", x.trial(9), 2);
        stands("a leap", x, 3, 4);
        due.is("the next line's address", x.register(1, 4), x.address(2));
        due.is("line 2 was left out", x.register(1, 5), 0);
        due.is("line 3 was not", x.register(1, 6), 1);
        FencedCode same = built(16, 3, 2, 0, 12, 3, 3, 0, 13, 6, 1, 0);
        due.is("trial(2)", same.trial(2), 0);
        stands("d is s", same, 2, 2);
        due.is("d is s", same.register(1, 3), 64);
        FencedCode end = built(16, 3, 2, 0, 12, 0, 3, 0);
        due.is("trial(9)", end.trial(9), 2);
        stands("a leap to the end", end, 2, 2);
        FencedCode first = built(4, 3, 0, 48, 12, 0, 3, 0);
        due.is("trial(2)", first.trial(2), 0);
        stands("a leap to line 0", first, 2, 0);
    }

    private static void left() {
        for (int to : new int[] {0, 16, 32, 47, 49, 50, 52, 63, 65, 80, 96, -16, 304, 2047}) {
            FencedCode x = built(4, 3, 0, to, 12, 4, 3, 0, 13, 5, 1, 0, 13, 5, 1, 0);
            due.is("address(1)", x.address(1), 52);
            due.is("address(2)", x.address(2), 64);
            due.is("trial(9) to " + to, x.trial(9), 5);
            stands("LEFT", x, 1, 1);
            due.is("d stays", x.register(1, 4), 0);
        }
        FencedCode x = built(4, 3, 0, 64, 12, 4, 3, 0, 13, 5, 1, 0);
        due.is("to 64", x.trial(9), 2);
        FencedCode padded = built(4, 3, 0, 64, 12, 0, 3, 0, 4, 4, 0, 0, 6, 5, 20, 0);
        due.is("address(3)", padded.address(3), 64);
        FencedCode inner = built(4, 3, 0, 64, 4, 4, 0, 0, 12, 0, 3, 0, 13, 1, 1, 0, 7, 5, 20, 0);
        due.is("address(3)", inner.address(3), 64);
        FencedCode behind = built(4, 3, 0, 64, 12, 0, 3, 0, 13, 1, 1, 0, 7, 5, 20, 0);
        due.is("address(3)", behind.address(3), 62);
        due.is("64 is behind the padding of line 3", behind.trial(9), 5);
    }

    private static void data() {
        FencedCode x = built(5, 20, 1, 0, 4, 2, 0, 77, 7, 2, 20, 60, 6, 3, 20, 60, 6, 0, 20, 60);
        due.is("trial(9)", x.trial(9), 2);
        for (int w = 0; w < 16; w++) {
            due.is("word " + w, x.word(1, w), w == 15 ? 77 : 0);
        }
        due.is("register 3", x.register(1, 3), 77);
        due.is("register 0", x.register(1, 0), 0);
        due.is("trial(2)", x.trial(2), 0);
        due.is("data begins anew", x.word(1, 15), 0);
        for (int i : new int[] {-4, -1, 1, 2, 3, 62, 64, 2047, -2048}) {
            for (int kind = 6; kind <= 7; kind++) {
                FencedCode out = built(5, 20, 1, 0, 4, 2, 0, 9, kind, 2, 20, i);
                due.is("trial(9)", out.trial(9), 4);
                stands("OUTSIDE", out, 2, 2);
                due.is("register 2", out.register(1, 2), 9);
                due.is("the machine is masked", out.run(99), 2);
            }
        }
    }

    private static void services() {
        FencedCode x = built(15, 0, 0, 0, 15, 1, 0, 0, 8, 0, 0, 0);
        x.input(5);
        x.input(-6);
        due.is("trial(9)", x.trial(9), 0);
        due.is("outputs", x.state(1, 2), 3);
        due.is("output 0", x.output(1, 0), 5);
        due.is("output 1", x.output(1, 1), -6);
        due.is("output 2", x.output(1, 2), -1);
        due.is("output 3", x.output(1, 3), 0);
        due.is("output -1", x.output(1, -1), 0);
        due.is("run's own outputs", x.state(0, 2), 0);
        due.is("trial(2000)", x.trial(2000), 0);
        due.is("at most 40 outputs", x.state(1, 2), 40);
        due.is("inputs begin anew", x.output(1, 0), 5);
        due.is("output 39", x.output(1, 39), -1);
        due.is("output 40", x.output(1, 40), 0);
        FencedCode exit = built(15, 2, 0, 0, 13, 5, 1, 0);
        due.is("trial(0)", exit.trial(0), 0);
        due.is("trial(1)", exit.trial(1), 1);
        stands("EXIT", exit, 1, 0);
        due.is("register 1", exit.register(1, 1), 64);
        due.is("register 5", exit.register(1, 5), 0);
    }

    public static void main(String[] args) {
        fuel();
        theProgramOfTheLatestBuild();
        arithmetic();
        branches();
        linksAndAddresses();
        leaps();
        left();
        data();
        services();
        due.end();
    }
}
