/** Promise 1: no lines, no code, no input; and the face of the class. */
public final class NewObjectTest {
    public static void main(String[] args) {
        Due due = new Due();
        FencedCode x = new FencedCode();
        due.is("clear()", x.clear(), 0);
        due.is("peek(-1)", x.peek(-1), 0);
        due.is("peek(0)", x.peek(0), -1);
        due.is("check()", x.check(), 48);
        due.is("address(0)", x.address(0), -1);
        for (int who = 0; who < 2; who++) {
            for (int what = 0; what < 3; what++) {
                due.is("state(" + who + ", " + what + ")", x.state(who, what), 0);
            }
            for (int i = 0; i < 40; i++) {
                due.is("output", x.output(who, i), 0);
                due.is("register", x.register(who, i), 0);
                due.is("word", x.word(who, i), 0);
            }
        }
        due.is("run(9)", x.run(9), 2);
        due.is("trial(9)", x.trial(9), 2);
        due.is("state(0, 1)", x.state(0, 1), 48);
        due.is("state(1, 1)", x.state(1, 1), 0);
        due.is("input(7)", x.input(7), 1);
        due.is("line", x.line(13, 0, 0, 0), 1);

        FencedCode reading = Due.code(64, x.encode(11, 1, -48, 0));
        due.is("run(2)", reading.run(2), 0);
        due.is("no input yet", reading.register(0, 10), -1);

        FencedCode other = new FencedCode();
        due.is("an object of its own", other.clear(), 0);
        due.is("BAD", FencedCode.BAD, -1);
        due.is("FULL", FencedCode.FULL, -2);
        due.end();
    }
}
