/** Promises 4 and 5: line and clear. */
public final class LineTest {
    private static final Due due = new Due();
    private static final int[] RESERVED_OR_NONE = {-1, 27, 28, 29, 30, 31, 32, Integer.MIN_VALUE, Integer.MAX_VALUE};

    private static void good(int kind, int a, int b, int c) {
        due.is("line(" + kind + ", " + a + ", " + b + ", " + c + ")", new FencedCode().line(kind, a, b, c), 1);
    }

    private static void bad(int kind, int a, int b, int c) {
        FencedCode x = new FencedCode();
        String call = "line(" + kind + ", " + a + ", " + b + ", " + c + ")";
        due.is(call, x.line(kind, a, b, c), -1);
        due.is("clear() after " + call, x.clear(), 0);
    }

    private static void edges() {
        for (int r : new int[] {0, 1, 26}) {
            for (int kind = 0; kind <= 3; kind++) {
                good(kind, r, 26 - r, r);
            }
            good(4, r, r, -2048);
            good(4, r, r, 2047);
            good(5, r, 0, 99);
            good(5, r, 1048575, -99);
            good(6, r, r, -2048);
            good(7, r, r, 2047);
            for (int target : new int[] {0, 1, 20}) {
                good(8, r, r, target);
                good(9, r, r, target);
                good(10, r, r, target);
                good(11, r, target, -7);
                good(16, r, target, -7);
            }
            good(12, r, r, 0);
            good(12, r, r, 12345);
        }
        good(13, 0, 0, 5);
        good(13, 26, -32, 5);
        good(13, 1, 31, 5);
        good(14, 1, 26, 5);
        good(14, 26, 1, 5);
        for (int service = 0; service <= 2; service++) {
            good(15, service, -1, 99);
        }
    }

    private static void wrongRegisters() {
        for (int r : RESERVED_OR_NONE) {
            for (int kind = 0; kind <= 14; kind++) {
                bad(kind, r, 1, 1);
                if (kind != 5 && kind != 11 && kind != 13) {
                    bad(kind, 1, r, 1);
                }
                if (kind <= 3) {
                    bad(kind, 1, 1, r);
                }
            }
            bad(16, r, 0, 0);
        }
        bad(14, 0, 1, 0);
        bad(14, 1, 0, 0);
        bad(14, 0, 0, 0);
    }

    private static void wrongNumbers() {
        for (int i : new int[] {-2049, 2048, Integer.MIN_VALUE, Integer.MAX_VALUE}) {
            bad(4, 1, 1, i);
            bad(6, 1, 1, i);
            bad(7, 1, 1, i);
        }
        for (int target : new int[] {-1, 21, Integer.MIN_VALUE, Integer.MAX_VALUE}) {
            bad(8, 1, 1, target);
            bad(9, 1, 1, target);
            bad(10, 1, 1, target);
            bad(11, 1, target, 0);
            bad(16, 1, target, 0);
        }
        bad(5, 1, -1, 0);
        bad(5, 1, 1048576, 0);
        bad(13, 0, 1, 0);
        bad(13, 1, 0, 0);
        bad(13, 1, 32, 0);
        bad(13, 1, -33, 0);
        bad(15, -1, 0, 0);
        bad(15, 3, 0, 0);
        for (int kind : new int[] {-1, 17, 18, Integer.MIN_VALUE, Integer.MAX_VALUE}) {
            bad(kind, 1, 1, 1);
            bad(kind, 0, 0, 0);
        }
    }

    private static void fullAndClear() {
        FencedCode x = new FencedCode();
        for (int n = 1; n <= 20; n++) {
            due.is("line " + n, x.line(13, 0, 0, 0), n);
        }
        due.is("one more", x.line(13, 0, 0, 0), -2);
        due.is("one more, BAD first", x.line(13, 0, 1, 0), -1);
        due.is("one more of no kind", x.line(17, 0, 0, 0), -1);
        due.is("clear()", x.clear(), 20);
        due.is("clear() again", x.clear(), 0);
        due.is("line after clear", x.line(0, 1, 2, 3), 1);
        due.is("clear() of one", x.clear(), 1);
    }

    private static void clearLeavesTheRest() {
        FencedCode x = Due.lines(4, 3, 0, 9, 15, 2, 0, 0);
        x.input(4);
        due.is("build()", x.build(), 80);
        due.is("clear()", x.clear(), 2);
        due.is("peek(-1) after clear", x.peek(-1), 80);
        due.is("address(2) after clear", x.address(2), 64);
        due.is("trial after clear", x.trial(9), 1);
        due.is("register(1, 3)", x.register(1, 3), 9);
        due.is("input stays", x.input(5), 2);
    }

    public static void main(String[] args) {
        edges();
        wrongRegisters();
        wrongNumbers();
        fullAndClear();
        clearLeavesTheRest();
        due.end();
    }
}
