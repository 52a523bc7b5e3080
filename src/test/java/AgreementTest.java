import java.util.ArrayList;
import java.util.List;

/**
 * A trial is as in TrialModel, and one that stays within the program and the data does what the machine does with
 * the built code.
 */
public final class AgreementTest {
    private static final Due due = new Due();

    private static void compare(String round, FencedCode x) {
        due.is(round + ": outputs", x.state(0, 2), x.state(1, 2));
        for (int i = 0; i < 40; i++) {
            due.is(round + ": output " + i, x.output(0, i), x.output(1, i));
        }
        for (int r = 0; r <= 26; r++) {
            due.is(round + ": register " + r, x.register(0, r), x.register(1, r));
        }
        for (int w = 0; w < 16; w++) {
            due.is(round + ": word " + w, x.word(0, w), x.word(1, w));
        }
    }

    private static int trial(String round, FencedCode x, int[] lines, List<Integer> inputs, int fuel) {
        int[] addresses = new int[lines.length / 4 + 1];
        for (int target = 0; target < addresses.length; target++) {
            addresses[target] = x.address(target);
        }
        TrialModel model = new TrialModel(lines, addresses, inputs);
        int end = x.trial(fuel);
        due.is(round + ": trial(" + fuel + ")", end, model.go(fuel));
        model.compare(due, round + ": trial(" + fuel + ")", x, 1);
        return end;
    }

    public static void main(String[] args) {
        Due.Dice dice = new Due.Dice(14);
        int[] ends = new int[6];
        for (int round = 0; round < 30000; round++) {
            int count = dice.between(1, 14);
            int[] lines = RandomProgram.make(dice, count, count);
            FencedCode x = Due.lines(lines);
            List<Integer> inputs = new ArrayList<>();
            for (int n = dice.below(5); n > 0; n--) {
                inputs.add(dice.below(2) == 0 ? dice.bits() : dice.below(200));
                x.input(inputs.get(inputs.size() - 1));
            }
            if (x.build() < 0) {
                continue;
            }
            trial("round " + round, x, lines, inputs, dice.below(12));
            int end = trial("round " + round, x, lines, inputs, 100);
            ends[end]++;
            if (end == 1 || end == 2) {
                due.is("round " + round + ": run", x.run(2000), end);
                compare("round " + round, x);
            } else {
                due.is("round " + round + ": run stays in the fence", x.run(500) <= 2, true);
            }
        }
        for (int end : new int[] {0, 1, 2, 4, 5}) {
            due.is("enough trials that end with " + end, ends[end] > 300, true);
        }
        due.is("no trial ends with 3", ends[3], 0);
        due.end();
    }
}
