/**
 * Rules 7 and 13 of LANGUAGE.md over the whole face: 512 calls with any numbers, the edges of the document and
 * of int among them, throw nothing, end, and are answered alike by a second object.
 */
public final class AnyCallsTest {
    private static final int CALLS = 512;
    private static final int[] EDGES = {Integer.MIN_VALUE, Integer.MIN_VALUE + 1, -1048577, -1048576, -4097, -4096,
        -2049, -2048, -33, -32, -2, -1, 0, 1, 2, 3, 15, 16, 17, 19, 20, 21, 26, 27, 31, 32, 39, 40, 41, 47, 48, 49, 63,
        64, 240, 255, 256, 257, 2000, 2001, 2047, 2048, 4094, 4095, 4096, 1048574, 1048575, 1048576,
        Integer.MAX_VALUE - 1, Integer.MAX_VALUE};
    private static final Due due = new Due();

    private static int number(Due.Dice dice) {
        int way = dice.below(4);
        return way == 0 ? dice.bits() : way == 1 ? EDGES[dice.below(EDGES.length)] : dice.below(way == 2 ? 21 : 260);
    }

    private static long call(FencedCode x, int which, int[] n) {
        switch (which) {
            case 0: return x.encode(n[0], n[1], n[2], n[3]);
            case 1: return x.kind(n[0]);
            case 2: return x.clear();
            case 3: return x.build();
            case 4: return x.address(n[0]);
            case 5: return x.length(n[0]) ? 1 : 0;
            case 6: return x.check();
            case 7: return x.input(n[0]);
            case 8: return x.run(n[0]);
            case 9: return x.trial(n[0]);
            case 10: return x.state(n[0], n[1]);
            case 11: return x.output(n[0], n[1]);
            case 12: return x.register(n[0], n[1]);
            case 13: return x.word(n[0], n[1]);
            case 14: return x.peek(n[0]);
            case 15: return x.line(n[0], n[1], n[2], n[3]);
            case 16: return x.poke(n[0], n[1]) ? 1 : 0;
            // More often what fills code and programs, so that there is something to run.
            case 17: return x.line(n[0] & 15, n[1] & 15, n[2] & 7, n[3] & 7);
            default: return x.poke(n[0] & 255, n[1] & 255) ? 1 : 0;
        }
    }

    private static void round(int round, Due.Dice dice) {
        FencedCode x = new FencedCode();
        FencedCode y = new FencedCode();
        int[] n = new int[4];
        for (int i = 0; i < CALLS; i++) {
            int which = dice.below(24);
            for (int k = 0; k < n.length; k++) {
                n[k] = number(dice);
            }
            long answer = call(x, which, n);
            due.is("round " + round + ", call " + i + " of " + which, call(y, which, n), answer);
        }
    }

    public static void main(String[] args) {
        Due.Dice dice = new Due.Dice(512);
        for (int round = 0; round < 3000; round++) {
            round(round, dice);
        }
        due.end();
    }
}
