/** Codes by dice that come near to what is right. */
final class RandomCode {
    private static final int[] REGISTERS = {0, 1, 5, 10, 20, 26, 27, 28, 29, 30, 31, 31, 31};
    private static final int[] LENGTHS = {64, 64, 80, 80, 96, 96, 112, 256, 49, 50, 63, 66, 48, 0};

    private static int register(Due.Dice dice) {
        return REGISTERS[dice.below(REGISTERS.length)];
    }

    private static int e(int kind, int a, int b, int c) {
        return FaceModel.encode(kind, a, b, c);
    }

    private static int low(Due.Dice dice) {
        return new int[] {0, 0, 4, 60, 64, -4, 1, 48, 80, 2047, -2048}[dice.below(11)];
    }

    /** Instructions that may be anything, or that have to do with the fence or with a service. */
    static int[] some(Due.Dice dice, int at) {
        int r = register(dice);
        int s = register(dice);
        switch (dice.below(22)) {
            case 0: return new int[] {e(2, 31, 31, 29), e(3, 31, 31, 28), e(6 + dice.below(2), r, 31, 0)};
            case 1: return new int[] {e(2, 31, s, 27), e(12, r, 31, 0)};
            case 2: return new int[] {e(2, 31, 31, 29)};
            case 3: return new int[] {e(3, 31, 31, 28)};
            case 4: return new int[] {e(6 + dice.below(2), r, s, low(dice))};
            case 5: return new int[] {e(12, r, s, low(dice))};
            case 6: case 7: return new int[] {e(8 + dice.below(3), r, s, dice.between(-40, 40) * 2)};
            case 8: return new int[] {e(11, r, dice.between(-60, 60) * 2, 0)};
            case 9: return new int[] {e(11, dice.below(2), dice.below(3) * 16 - at, 0)};
            case 10: return new int[] {dice.bits()};
            case 11: return new int[] {e(5, r, dice.below(3), 0)};
            case 12: return new int[] {e(5, 20, 1, 0), e(6 + dice.below(2), r, 20, low(dice))};
            case 13: return new int[] {e(dice.below(4), r, s, register(dice))};
            case 14: case 15: return new int[] {e(4, r, s, low(dice))};
            case 16: return new int[] {e(13, Math.max(1, r), dice.between(1, 31) * (dice.below(2) * 2 - 1), 0), 1};
            case 17: return new int[] {e(14, Math.max(1, r), Math.max(1, s), 0), 1};
            default: return new int[] {e(4, dice.below(27), dice.below(32), low(dice))};
        }
    }

    static int[] bytes(Due.Dice dice) {
        int[] bytes = new int[LENGTHS[dice.below(LENGTHS.length)]];
        int at = 48;
        while (at < bytes.length) {
            for (int bits : some(dice, at)) {
                for (int n = 0; n < Due.size(bits) && at < bytes.length; n++, at++) {
                    bytes[at] = bits >>> 8 * n & 255;
                }
            }
        }
        // Most codes with a bundle that something goes over are cut there, so that the rest is looked at too.
        if (dice.below(4) != 0) {
            for (int end = 64; end <= bytes.length; end += 16) {
                for (int n = end - 4; n < end && dice.below(2) == 0; n += 2) {
                    bytes[n] = 1;
                    bytes[n + 1] = 0;
                }
            }
        }
        return bytes;
    }
}
