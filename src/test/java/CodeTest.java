/** Promises 8, 9 and 10: length, poke and peek. */
public final class CodeTest {
    private static final Due due = new Due();

    private static void lengths() {
        FencedCode x = new FencedCode();
        for (int n : new int[] {-1, 257, Integer.MIN_VALUE, Integer.MAX_VALUE}) {
            due.is("length(" + n + ")", x.length(n), false);
            due.is("peek(-1)", x.peek(-1), 0);
        }
        for (int n : new int[] {256, 0, 1, 255, 63}) {
            due.is("length(" + n + ")", x.length(n), true);
            due.is("peek(-1)", x.peek(-1), n);
            due.is("peek(n)", x.peek(n), -1);
            due.is("peek(n - 1)", x.peek(n - 1), 0);
        }
        due.is("length(300)", x.length(300), false);
        due.is("the length stays", x.peek(-1), 63);
    }

    private static void pokes() {
        FencedCode x = new FencedCode();
        due.is("poke without code", x.poke(0, 1), false);
        x.length(100);
        for (int i = 0; i < 100; i++) {
            due.is("poke", x.poke(i, 255 - i), true);
        }
        for (int i = 0; i < 100; i++) {
            due.is("peek(" + i + ")", x.peek(i), 255 - i);
        }
        for (int i : new int[] {-2, -1, 100, 255, 256, Integer.MIN_VALUE, Integer.MAX_VALUE}) {
            due.is("poke(" + i + ", 1)", x.poke(i, 1), false);
            due.is("peek(" + i + ")", x.peek(i), i == -1 ? 100 : -1);
        }
        for (int b : new int[] {-1, 256, Integer.MIN_VALUE, Integer.MAX_VALUE}) {
            due.is("poke(5, " + b + ")", x.poke(5, b), false);
        }
        due.is("byte 5 stays", x.peek(5), 250);
        due.is("poke(5, 0)", x.poke(5, 0), true);
        due.is("poke(6, 255)", x.poke(6, 255), true);
        due.is("peek(5)", x.peek(5), 0);
        due.is("peek(6)", x.peek(6), 255);
    }

    private static void whatIsNewIsZero() {
        FencedCode x = new FencedCode();
        x.length(256);
        for (int i = 0; i < 256; i++) {
            x.poke(i, 7);
        }
        due.is("length(10)", x.length(10), true);
        due.is("length(20)", x.length(20), true);
        for (int i = 0; i < 20; i++) {
            due.is("peek(" + i + ")", x.peek(i), i < 10 ? 7 : 0);
        }
        due.is("length(256)", x.length(256), true);
        due.is("peek(9)", x.peek(9), 7);
        due.is("peek(255)", x.peek(255), 0);
    }

    private static void pokesAfterBuild() {
        FencedCode x = Due.lines(4, 3, 0, 9);
        x.build();
        due.is("poke(51, 5)", x.poke(51, 5), true);
        due.is("peek(51)", x.peek(51), 5);
        due.is("length(50)", x.length(50), true);
        due.is("address(1) stays", x.address(1), 52);
        due.is("trial stays", x.trial(9), 2);
        due.is("register(1, 3)", x.register(1, 3), 9);
        x.length(256);
        x.poke(0, 3);
        x.poke(200, 3);
        due.is("build() again", x.build(), 64);
        due.is("peek(0)", x.peek(0), 0);
        due.is("peek(51)", x.peek(51), 0);
        x.length(256);
        due.is("peek(200)", x.peek(200), 0);
    }

    public static void main(String[] args) {
        lengths();
        pokes();
        whatIsNewIsZero();
        pokesAfterBuild();
        due.end();
    }
}
