/** Promise 3: kind, for all halves and for all opcodes and small fields of 32 bits. */
public final class KindTest {
    private static final Due due = new Due();

    private static int[] halfKinds() {
        int[] kinds = new int[65536];
        java.util.Arrays.fill(kinds, -1);
        kinds[1] = 13;
        for (int d = 1; d <= 31; d++) {
            for (int i = -32; i <= 31; i++) {
                if (i != 0) {
                    kinds[Due.fields(0, 3, i >> 5, 1, d, 5, i, 5, 1, 2)] = 13;
                }
            }
            for (int t = 1; t <= 31; t++) {
                kinds[Due.fields(8, 4, d, 5, t, 5, 2, 2)] = 14;
            }
        }
        return kinds;
    }

    private static void halves() {
        int[] kinds = halfKinds();
        for (int low = 0; low < 65536; low++) {
            if ((low & 3) != 3) {
                due.is("kind(" + low + ")", new FencedCode().kind(low), kinds[low]);
                due.is("kind with an upper half, " + low, new FencedCode().kind(low | 0xFFFF0000), kinds[low]);
                due.is("kind with an upper half, " + low, new FencedCode().kind(low | 0x5A5A0000), kinds[low]);
            }
        }
    }

    private static int wordKind(int seven, int three, int opcode) {
        switch (opcode) {
            case 51:
                return seven == 32 && three == 0 ? 1
                        : seven != 0 ? -1 : three == 0 ? 0 : three == 7 ? 2 : three == 6 ? 3 : -1;
            case 19:
                return three == 0 ? 4 : -1;
            case 55:
                return 5;
            case 3:
                return three == 2 ? 6 : -1;
            case 35:
                return three == 2 ? 7 : -1;
            case 99:
                return three == 0 ? 8 : three == 1 ? 9 : three == 4 ? 10 : -1;
            case 111:
                return 11;
            case 103:
                return three == 0 ? 12 : -1;
            default:
                return -1;
        }
    }

    private static void words() {
        Due.Dice dice = new Due.Dice(3);
        for (int opcode = 3; opcode < 128; opcode += 4) {
            for (int three = 0; three < 8; three++) {
                for (int seven = 0; seven < 128; seven++) {
                    int bits = Due.fields(seven, 7, dice.bits(), 10, three, 3, dice.bits(), 5, opcode, 7);
                    due.is("kind(" + bits + ")", new FencedCode().kind(bits), wordKind(seven, three, opcode));
                }
            }
        }
    }

    private static void whatEncodeMakes() {
        Due.Dice dice = new Due.Dice(33);
        for (int kind = 0; kind <= 14; kind++) {
            for (int n = 0; n < 300; n++) {
                int b = kind == 11 ? dice.between(-500, 500) * 2 : dice.between(1, 31);
                int bits = new FencedCode().encode(kind, dice.between(1, 31), b, dice.between(0, 15) * 2);
                due.is("kind of kind " + kind, new FencedCode().kind(bits), kind);
            }
        }
    }

    public static void main(String[] args) {
        halves();
        words();
        whatEncodeMakes();
        due.is("kind(0)", new FencedCode().kind(0), -1);
        due.is("kind(-1)", new FencedCode().kind(-1), -1);
        due.is("ECALL", new FencedCode().kind(115), -1);
        due.end();
    }
}
