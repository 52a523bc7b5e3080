import java.util.ArrayList;
import java.util.List;

/** Promises 3, 11, 13 and 15 to 18 against TextModel, over codes by dice that come near to what is right. */
public final class ModelTest {
    private static final Due due = new Due();

    private static void kinds(Due.Dice dice) {
        FencedCode x = new FencedCode();
        for (int n = 0; n < 200000; n++) {
            int changed = dice.below(2) == 0 ? 0 : 1 << dice.below(32);
            int bits = dice.below(4) == 0 ? dice.bits() : RandomCode.some(dice, 48)[0] ^ changed;
            due.is("kind(" + bits + ")", x.kind(bits), FaceModel.kind(bits));
        }
    }

    public static void main(String[] args) {
        Due.Dice dice = new Due.Dice(20261116);
        kinds(dice);
        int[] ends = new int[5];
        int right = 0;
        int wrongLate = 0;
        for (int round = 0; round < 40000; round++) {
            int[] bytes = RandomCode.bytes(dice);
            List<Integer> inputs = new ArrayList<>();
            FencedCode x = new FencedCode();
            x.length(bytes.length);
            for (int i = 0; i < bytes.length; i++) {
                x.poke(i, bytes[i]);
            }
            for (int n = dice.below(4); n > 0; n--) {
                inputs.add(dice.below(2) == 0 ? dice.bits() : dice.below(256));
                x.input(inputs.get(inputs.size() - 1));
            }
            int want = new TextModel(bytes, inputs).check();
            due.is("round " + round + ": check()", x.check(), want);
            right += want == -1 ? 1 : 0;
            wrongLate += want > 48 ? 1 : 0;
            TextModel model = new TextModel(bytes, inputs);
            int fuel = dice.below(3) == 0 ? dice.below(12) : 300;
            int end = model.run(fuel);
            ends[end]++;
            due.is("round " + round + ": run(" + fuel + ")", x.run(fuel), end);
            model.compare(due, "round " + round, x, 0);
        }
        due.is("enough that are right: " + right, right > 500, true);
        due.is("enough that are wrong later on: " + wrongLate, wrongLate > 5000, true);
        for (int end = 0; end < ends.length; end++) {
            due.is("enough runs that end with " + end + ": " + ends[end], ends[end] > 500, true);
        }
        due.end();
    }
}
