/** Programs by dice: lines of four numbers each, all of them in their ranges. */
final class RandomProgram {
    private static final int[] SHORTS = {-2048, 2047, -1, 0, 1, 4, 8, 60, 64, 100, -4};

    /** Registers are few, so that lines have to do with one another; 20 and 21 point at data. */
    private static int register(Due.Dice dice) {
        int[] often = {0, 1, 2, 3, 10, 20, 21, 26};
        return often[dice.below(often.length)];
    }

    static int[] make(Due.Dice dice, int count, int topTarget) {
        int[] lines = new int[4 * count];
        for (int n = 0; n < count; n++) {
            int kind = dice.below(3) == 0 ? new int[] {4, 6, 7, 12, 13, 14, 15, 16}[dice.below(8)] : dice.below(17);
            int a = register(dice);
            int b = register(dice);
            int c = 0;
            if (kind <= 3) {
                c = register(dice);
            } else if (kind == 4 || kind == 6 || kind == 7) {
                c = SHORTS[dice.below(SHORTS.length)];
                if (kind != 4 && dice.below(4) != 0) {
                    b = 20;
                    c = dice.below(16) * 4;
                }
            } else if (kind == 5) {
                b = dice.below(3) == 0 ? dice.below(1048576) : dice.below(3);
            } else if (kind <= 10) {
                c = dice.between(0, topTarget);
            } else if (kind == 11 || kind == 16) {
                b = dice.between(0, topTarget);
            } else if (kind == 13) {
                a = dice.below(5) == 0 ? 0 : Math.max(1, a);
                b = a == 0 ? 0 : dice.between(1, 31) * (dice.below(2) * 2 - 1);
            } else if (kind == 14) {
                a = Math.max(1, a);
                b = Math.max(1, b);
            } else if (kind == 15) {
                a = dice.below(8) == 0 ? 2 : dice.below(2);
            }
            if (n == 0 && dice.below(2) == 0) {
                kind = 5;
                a = 20;
                b = 1;
            }
            lines[4 * n] = kind;
            lines[4 * n + 1] = a;
            lines[4 * n + 2] = b;
            lines[4 * n + 3] = c;
        }
        return lines;
    }
}
