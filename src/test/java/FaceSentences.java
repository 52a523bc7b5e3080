import java.lang.reflect.Constructor;
import java.lang.reflect.Field;
import java.lang.reflect.Method;
import java.lang.reflect.Modifier;
import java.util.TreeSet;

/** What it is, and the public face. */
final class FaceSentences extends Sentences {
    FaceSentences(Document document, Due due) {
        super(document, due);
    }

    private void what(String promises, String words) {
        quote("What it is", "Promise " + promises + ", What it is", words);
    }

    void rewriter() {
        what("4, 6", "A fence for foreign machine code: a rewriter that makes of a short program one that masks each"
                + " address it uses, packs it into bundles and writes it as bytes;");
        FencedCode x = built(C_ADDI, 5, 1, 0, LW, 6, 5, 2047, C_MV, 7, 6, 0, SW, 7, 6, -2048, JALR, 0, 7, 0);
        codeIs("masked and packed", x, e(C_ADDI, 5, 1, 0), HALF_NOP, NOP, NOP, NOP,
                e(ADDI, 31, 5, 2047), e(AND, 31, 31, 29), e(OR, 31, 31, 28), e(LW, 6, 31, 0),
                e(C_MV, 7, 6, 0), HALF_NOP, NOP, NOP, NOP,
                e(ADDI, 31, 6, -2048), e(AND, 31, 31, 29), e(OR, 31, 31, 28), e(SW, 7, 31, 0),
                e(AND, 31, 7, 27), e(JALR, 0, 31, 0), NOP, NOP);
        for (int wild : new int[] {LOW, -1, 0, 1, 255, 4095, 4160, HIGH}) {
            FencedCode run = new FencedCode();
            run.line(CALL, READ, 0, 0);
            run.line(SW, 10, 10, 0);
            run.line(LW, 11, 10, 0);
            run.line(CALL, EXIT, 0, 0);
            run.build();
            run.input(wild);
            is("whatever the address, " + wild, run.run(99), 1);
            is("a word of data is used", run.word(RUN, (wild & 60) / 4), wild);
            is("and the same word again", run.register(RUN, 11), wild);
        }
    }

    void checker() {
        what("11", "a checker that goes once over any bytes and knows nothing of the rewriter;");
        FencedCode maker = built(LW, 5, 6, 4, CALL, WRITE, 0, 0, JALR, 0, 5, 0);
        FencedCode other = new FencedCode();
        other.length(maker.peek(-1));
        for (int i = 0; i < maker.peek(-1); i++) {
            other.poke(i, maker.peek(i));
        }
        is("what was built", maker.check(), BAD);
        is("the same bytes by hand", other.check(), BAD);
        maker.poke(60, 0);
        other.poke(60, 0);
        is("one byte changed", maker.check(), 60);
        is("the same bytes by hand", other.check(), 60);
        maker.clear();
        maker.line(ADDI, 1, 2, 3);
        is("lines do not matter", maker.check(), 60);
    }

    void machine() {
        what("13", "a machine that runs bytes with two regions of memory and three services;");
        FencedCode x = Due.code(128, NOP, NOP, NOP, e(JAL, 1, 0 - 60, 0),
                NOP, e(LUI, 5, 1, 0), e(SW, 10, 5, 0), e(JAL, 1, 16 - 76, 0), NOP, NOP, NOP, e(JAL, 1, 32 - 92, 0));
        x.input(33);
        is("by hand, with READ, WRITE and EXIT", x.run(99), 1);
        is("what was written", x.output(RUN, 0), 33);
        is("data has it", x.word(RUN, 0), 33);
        is("the code has not", x.peek(0), 0);
        is("data is no code", Due.code(64, e(LUI, 5, 1, 0), e(JALR, 0, 5, 0)).run(9), 2);
        is("code is no data", Due.code(64, e(LW, 5, 0, 48)).run(9), 4);
    }

    void compare() {
        what("13, 14", "and the program as its writer meant it, to compare.");
        FencedCode x = built(CALL, READ, 0, 0, BEQ, 10, 0, 4, CALL, WRITE, 0, 0, JAL, 0, 0, 0, CALL, EXIT, 0, 0);
        for (int v : new int[] {5, LOW, HIGH, 0, 7}) {
            x.input(v);
        }
        is("run", x.run(99), 1);
        is("trial", x.trial(99), 1);
        for (int who = RUN; who <= TRIAL; who++) {
            is("outputs of " + who, x.state(who, 2), 3);
            is("output 0 of " + who, x.output(who, 0), 5);
            is("output 1 of " + who, x.output(who, 1), LOW);
            is("output 2 of " + who, x.output(who, 2), HIGH);
        }
    }

    void calls() {
        what("1 to 18", "An object is used for at most 512 calls after it has been made; what later calls answer is free.");
        FencedCode x = new FencedCode();
        is("length(256)", x.length(256), true);
        for (int n = 2; n <= 257; n++) {
            is("poke in call " + n, x.poke(n - 2, n & 255), true);
        }
        for (int n = 258; n <= 512; n++) {
            is("peek in call " + n, x.peek(n - 257), n - 255 & 255);
        }
    }

    private static String declared(int modifiers, String rest) {
        return Modifier.toString(modifiers) + " " + rest;
    }

    void face() throws IllegalAccessException {
        String head = "public final class FencedCode {";
        String[] members = {"public static final int BAD = -1", "public static final int FULL = -2",
            "public FencedCode()", "public int encode(int kind, int a, int b, int c)", "public int kind(int bits)",
            "public int line(int kind, int a, int b, int c)", "public int clear()", "public int build()",
            "public int address(int target)", "public boolean length(int n)", "public boolean poke(int i, int b)",
            "public int peek(int i)", "public int check()", "public int input(int v)", "public int run(int fuel)",
            "public int trial(int fuel)", "public int state(int who, int what)", "public int output(int who, int i)",
            "public int register(int who, int r)", "public int word(int who, int w)"};
        quote("The public face", "Promises 1 to 18, The public face", head + " " + String.join("; ", members) + "; }");
        is("the class", declared(FencedCode.class.getModifiers(), "class FencedCode {").equals(head), true);
        TreeSet<String> said = new TreeSet<>();
        for (String member : members) {
            said.add(member.replaceAll("int \\w+(?=[,)])", "int"));
        }
        for (String one : open()) {
            is(one + " is said", said.remove(one), true);
        }
        is("not there: " + said, said.size(), 0);
    }

    /** All members that are not private, in the document's words, but for the names of parameters. */
    private static TreeSet<String> open() throws IllegalAccessException {
        TreeSet<String> open = new TreeSet<>();
        for (Field field : FencedCode.class.getDeclaredFields()) {
            if (!Modifier.isPrivate(field.getModifiers())) {
                open.add(declared(field.getModifiers(), field.getType() + " " + field.getName() + " = " + field.get(null)));
            }
        }
        for (Constructor<?> made : FencedCode.class.getDeclaredConstructors()) {
            open.add(declared(made.getModifiers(), "FencedCode" + parameters(made.getParameterTypes())));
        }
        for (Method method : FencedCode.class.getDeclaredMethods()) {
            if (!Modifier.isPrivate(method.getModifiers())) {
                String head = method.getReturnType() + " " + method.getName();
                open.add(declared(method.getModifiers(), head + parameters(method.getParameterTypes())));
            }
        }
        return open;
    }

    private static String parameters(Class<?>[] types) {
        StringBuilder text = new StringBuilder("(");
        for (Class<?> type : types) {
            text.append(text.length() == 1 ? "" : ", ").append(type);
        }
        return text.append(")").toString();
    }
}
