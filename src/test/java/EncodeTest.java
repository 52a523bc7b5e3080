/** Promise 2: encode, against the fields as the document tells them. */
public final class EncodeTest {
    private static final Due due = new Due();
    private static final int[] REGISTERS = {0, 1, 2, 15, 16, 26, 27, 31};
    private static final int[] SHORTS = {-2048, -2047, -1025, -33, -32, -1, 0, 1, 31, 32, 1024, 2047};
    private static final int[] NO_REGISTERS = {-1, 32, 33, 1 << 20, Integer.MIN_VALUE, Integer.MAX_VALUE};

    private static void ask(int kind, int a, int b, int c, int want) {
        due.is("encode(" + kind + ", " + a + ", " + b + ", " + c + ")", new FencedCode().encode(kind, a, b, c), want);
    }

    private static void bad(int kind, int a, int b, int c) {
        ask(kind, a, b, c, -1);
    }

    private static void threeRegisters() {
        int[] seven = {0, 32, 0, 0};
        int[] three = {0, 0, 7, 6};
        for (int kind = 0; kind <= 3; kind++) {
            for (int d : REGISTERS) {
                for (int s : REGISTERS) {
                    for (int t : REGISTERS) {
                        ask(kind, d, s, t, Due.fields(seven[kind], 7, t, 5, s, 5, three[kind], 3, d, 5, 51, 7));
                    }
                }
            }
        }
    }

    private static void shorts() {
        for (int d : REGISTERS) {
            for (int s : REGISTERS) {
                for (int i : SHORTS) {
                    ask(4, d, s, i, Due.fields(i, 12, s, 5, 0, 3, d, 5, 19, 7));
                    ask(6, d, s, i, Due.fields(i, 12, s, 5, 2, 3, d, 5, 3, 7));
                    ask(7, d, s, i, Due.fields(i >> 5, 7, d, 5, s, 5, 2, 3, i, 5, 35, 7));
                    ask(12, d, s, i, Due.fields(i, 12, s, 5, 0, 3, d, 5, 103, 7));
                }
            }
        }
        for (int kind : new int[] {4, 6, 7, 12}) {
            for (int i : new int[] {-2049, 2048, 4095, Integer.MIN_VALUE, Integer.MAX_VALUE}) {
                bad(kind, 1, 2, i);
            }
        }
    }

    private static void upper() {
        for (int d : REGISTERS) {
            for (int i : new int[] {0, 1, 4095, 4096, 524287, 524288, 1048575}) {
                ask(5, d, i, 0, Due.fields(i, 20, d, 5, 55, 7));
                ask(5, d, i, -99999, Due.fields(i, 20, d, 5, 55, 7));
            }
        }
        for (int i : new int[] {-1, 1048576, Integer.MIN_VALUE, Integer.MAX_VALUE}) {
            bad(5, 1, i, 0);
        }
    }

    private static int bit(int o, int n) {
        return o >> n & 1;
    }

    private static void branches() {
        int[] three = {0, 1, 4};
        for (int kind = 8; kind <= 10; kind++) {
            for (int o = -4096; o <= 4094; o += 2) {
                int s = (o & 62) >> 1;
                int t = 31 - s;
                ask(kind, s, t, o, Due.fields(bit(o, 12), 1, o >> 5, 6, t, 5, s, 5, three[kind - 8], 3,
                        o >> 1, 4, bit(o, 11), 1, 99, 7));
                bad(kind, s, t, o + 1);
            }
            for (int o : new int[] {-4098, -4097, 4095, 4096, Integer.MIN_VALUE, Integer.MAX_VALUE - 1}) {
                bad(kind, 1, 2, o);
            }
        }
    }

    private static void jumps() {
        int[] offsets = {-1048576, -1048574, -4096, -2048, -2, 0, 2, 30, 1024, 2046, 2048, 4096, 65536, 1048574,
            349524, 699050 - 1048576};
        for (int o : offsets) {
            for (int d : REGISTERS) {
                ask(11, d, o, 77777, Due.fields(bit(o, 20), 1, o >> 1, 10, bit(o, 11), 1, o >> 12, 8, d, 5, 111, 7));
            }
            bad(11, 1, o + 1, 0);
        }
        for (int o : new int[] {-1048578, -1048577, 1048575, 1048576, Integer.MIN_VALUE, Integer.MAX_VALUE - 1}) {
            bad(11, 1, o, 0);
        }
    }

    private static void halves() {
        for (int d = -2; d <= 33; d++) {
            for (int i = -34; i <= 33; i++) {
                boolean both = d >= 1 && d <= 31 && i >= -32 && i <= 31 && i != 0 || d == 0 && i == 0;
                ask(13, d, i, 5, both ? Due.fields(0, 3, bit(i, 5), 1, d, 5, i, 5, 1, 2) : -1);
            }
            for (int t = -2; t <= 33; t++) {
                boolean both = d >= 1 && d <= 31 && t >= 1 && t <= 31;
                ask(14, d, t, -5, both ? Due.fields(8, 4, d, 5, t, 5, 2, 2) : -1);
            }
        }
        bad(13, 1, Integer.MIN_VALUE, 0);
        bad(13, Integer.MIN_VALUE, 1, 0);
        bad(14, Integer.MAX_VALUE, 1, 0);
    }

    private static void wrongRegistersAndKinds() {
        for (int r : NO_REGISTERS) {
            for (int kind = 0; kind <= 12; kind++) {
                bad(kind, r, 2, 2);
                if (kind != 5 && kind != 11) {
                    bad(kind, 2, r, 2);
                }
            }
            for (int kind = 0; kind <= 3; kind++) {
                bad(kind, 2, 2, r);
            }
        }
        for (int kind : new int[] {-1, 15, 16, 17, 99, Integer.MIN_VALUE, Integer.MAX_VALUE}) {
            bad(kind, 0, 0, 0);
            bad(kind, 1, 2, 2);
        }
    }

    public static void main(String[] args) {
        threeRegisters();
        shorts();
        upper();
        branches();
        jumps();
        halves();
        wrongRegistersAndKinds();
        due.end();
    }
}
