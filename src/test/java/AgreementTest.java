/** A trial that stays within the program and the data does what the machine does with the built code. */
public final class AgreementTest {
    private static final Due due = new Due();

    private static void compare(String round, FencedCode x) {
        due.is(round + ": outputs", x.state(0, 2), x.state(1, 2));
        for (int i = 0; i < 40; i++) {
            due.is(round + ": output " + i, x.output(0, i), x.output(1, i));
        }
        for (int r = 0; r <= 26; r++) {
            due.is(round + ": register " + r, x.register(0, r), x.register(1, r));
        }
        for (int w = 0; w < 16; w++) {
            due.is(round + ": word " + w, x.word(0, w), x.word(1, w));
        }
    }

    public static void main(String[] args) {
        Due.Dice dice = new Due.Dice(14);
        int[] ends = new int[6];
        for (int round = 0; round < 30000; round++) {
            int count = dice.between(1, 14);
            FencedCode x = Due.lines(RandomProgram.make(dice, count, count));
            for (int n = dice.below(5); n > 0; n--) {
                x.input(dice.below(2) == 0 ? dice.bits() : dice.below(200));
            }
            if (x.build() < 0) {
                continue;
            }
            int end = x.trial(100);
            ends[end]++;
            if (end == 1 || end == 2) {
                due.is("round " + round + ": run", x.run(2000), end);
                compare("round " + round, x);
            } else {
                due.is("round " + round + ": run stays in the fence", x.run(500) <= 2, true);
            }
        }
        for (int end : new int[] {0, 1, 2, 4, 5}) {
            due.is("enough trials that end with " + end, ends[end] > 300, true);
        }
        due.is("no trial ends with 3", ends[3], 0);
        due.end();
    }
}
