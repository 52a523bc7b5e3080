import java.util.ArrayList;
import java.util.List;

/** Promises 3, 11, 13 and 15 to 18 against TextModel, over codes by dice that come near to what is right. */
public final class ModelTest {
    private static final Due due = new Due();
    private static final int[] REGISTERS = {0, 1, 5, 10, 20, 26, 27, 28, 29, 30, 31, 31, 31};
    private static final int[] LENGTHS = {64, 64, 80, 80, 96, 96, 112, 256, 49, 50, 63, 66, 48, 0};

    private static int register(Due.Dice dice) {
        return REGISTERS[dice.below(REGISTERS.length)];
    }

    private static int e(int kind, int a, int b, int c) {
        return new FencedCode().encode(kind, a, b, c);
    }

    private static int low(Due.Dice dice) {
        return new int[] {0, 0, 4, 60, 64, -4, 1, 48, 80, 2047, -2048}[dice.below(11)];
    }

    /** Instructions that may be anything, or that have to do with the fence or with a service. */
    private static int[] some(Due.Dice dice, int at) {
        int r = register(dice);
        int s = register(dice);
        switch (dice.below(22)) {
            case 0: return new int[] {e(2, 31, 31, 29), e(3, 31, 31, 28), e(6 + dice.below(2), r, 31, 0)};
            case 1: return new int[] {e(2, 31, s, 27), e(12, r, 31, 0)};
            case 2: return new int[] {e(2, 31, 31, 29)};
            case 3: return new int[] {e(3, 31, 31, 28)};
            case 4: return new int[] {e(6 + dice.below(2), r, s, low(dice))};
            case 5: return new int[] {e(12, r, s, low(dice))};
            case 6: case 7: return new int[] {e(8 + dice.below(3), r, s, dice.between(-40, 40) * 2)};
            case 8: return new int[] {e(11, r, dice.between(-60, 60) * 2, 0)};
            case 9: return new int[] {e(11, dice.below(2), dice.below(3) * 16 - at, 0)};
            case 10: return new int[] {dice.bits()};
            case 11: return new int[] {e(5, r, dice.below(3), 0)};
            case 12: return new int[] {e(5, 20, 1, 0), e(6 + dice.below(2), r, 20, low(dice))};
            case 13: return new int[] {e(dice.below(4), r, s, register(dice))};
            case 14: case 15: return new int[] {e(4, r, s, low(dice))};
            case 16: return new int[] {e(13, Math.max(1, r), dice.between(1, 31) * (dice.below(2) * 2 - 1), 0), 1};
            case 17: return new int[] {e(14, Math.max(1, r), Math.max(1, s), 0), 1};
            default: return new int[] {e(4, dice.below(27), dice.below(32), low(dice))};
        }
    }

    private static int[] bytes(Due.Dice dice) {
        int[] bytes = new int[LENGTHS[dice.below(LENGTHS.length)]];
        int at = 48;
        while (at < bytes.length) {
            for (int bits : some(dice, at)) {
                for (int n = 0; n < Due.size(bits) && at < bytes.length; n++, at++) {
                    bytes[at] = bits >>> 8 * n & 255;
                }
            }
        }
        // Most codes with a bundle that something goes over are cut there, so that the rest is looked at too.
        if (dice.below(4) != 0) {
            for (int end = 64; end <= bytes.length; end += 16) {
                for (int n = end - 4; n < end && dice.below(2) == 0; n += 2) {
                    bytes[n] = 1;
                    bytes[n + 1] = 0;
                }
            }
        }
        return bytes;
    }

    private static void compare(String name, FencedCode x, TextModel model) {
        due.is(name + ": steps", x.state(0, 0), model.steps);
        due.is(name + ": place", x.state(0, 1), model.place);
        due.is(name + ": outputs", x.state(0, 2), model.outputs.size());
        for (int i = 0; i < model.outputs.size(); i++) {
            due.is(name + ": output " + i, x.output(0, i), model.outputs.get(i));
        }
        for (int r = 0; r < 32; r++) {
            due.is(name + ": register " + r, x.register(0, r), model.registers[r]);
        }
        for (int w = 0; w < 16; w++) {
            due.is(name + ": word " + w, x.word(0, w), model.data[w]);
        }
    }

    private static void kinds(Due.Dice dice) {
        List<String> names = List.of("ADD", "SUB", "AND", "OR", "ADDI", "LUI", "LW", "SW", "BEQ", "BNE", "BLT", "JAL",
                "JALR", "C.ADDI", "C.MV");
        FencedCode x = new FencedCode();
        for (int n = 0; n < 200000; n++) {
            int bits = dice.below(4) == 0 ? dice.bits() : some(dice, 48)[0] ^ (dice.below(2) == 0 ? 0 : 1 << dice.below(32));
            due.is("kind(" + bits + ")", x.kind(bits), names.indexOf(TextModel.text(bits).split(" ")[0]));
        }
    }

    public static void main(String[] args) {
        Due.Dice dice = new Due.Dice(20261116);
        kinds(dice);
        int[] ends = new int[5];
        int right = 0;
        int wrongLate = 0;
        for (int round = 0; round < 40000; round++) {
            int[] bytes = bytes(dice);
            List<Integer> inputs = new ArrayList<>();
            FencedCode x = new FencedCode();
            x.length(bytes.length);
            for (int i = 0; i < bytes.length; i++) {
                x.poke(i, bytes[i]);
            }
            for (int n = dice.below(4); n > 0; n--) {
                inputs.add(dice.below(2) == 0 ? dice.bits() : dice.below(256));
                x.input(inputs.get(inputs.size() - 1));
            }
            int want = new TextModel(bytes, inputs).check();
            due.is("round " + round + ": check()", x.check(), want);
            right += want == -1 ? 1 : 0;
            wrongLate += want > 48 ? 1 : 0;
            TextModel model = new TextModel(bytes, inputs);
            int fuel = dice.below(3) == 0 ? dice.below(12) : 300;
            int end = model.run(fuel);
            ends[end]++;
            due.is("round " + round + ": run(" + fuel + ")", x.run(fuel), end);
            compare("round " + round, x, model);
        }
        due.is("enough that are right: " + right, right > 500, true);
        due.is("enough that are wrong later on: " + wrongLate, wrongLate > 5000, true);
        for (int end = 0; end < ends.length; end++) {
            due.is("enough runs that end with " + end + ": " + ends[end], ends[end] > 500, true);
        }
        due.end();
    }
}
