/** Promises 11 to 18: check, input, run, trial, state, output, register, word. */
final class RunningSentences extends Sentences {
    private static final int[] NO_FUEL = {LOW, -1, 2001, HIGH};
    private static final int[] NO_WHO = {LOW, -1, 2, 3, HIGH};

    RunningSentences(Document document, Due due) {
        super(document, due);
    }

    void nothingWrong() {
        promise(11, "The check: BAD when nothing is wrong;");
        is("the shortest code", Due.blank(64).check(), BAD);
        is("the longest code", Due.blank(256).check(), BAD);
        is("what is built of no lines", built().check(), BAD);
        FencedCode most = bundles(12);
        most.build();
        is("what is built of twelve bundles", most.check(), BAD);
        is("it changes nothing", most.check(), BAD);
    }

    void firstThatIsNotRight() {
        promise(11, "the address of the first instruction that is not right;");
        FencedCode x = Due.blank(256);
        for (int at = 252; at >= 48; at -= 4) {
            Due.put(x, at, e(LUI, 31, 0, 0));
            is("from " + at + " on", x.check(), at);
        }
        FencedCode y = Due.blank(256);
        Due.put(y, 52, e(LUI, 31, 0, 0));
        is("not right at 52", y.check(), 52);
        Due.put(y, 252, 0);
        is("illegal at 252", y.check(), 252);
        y.length(240);
        is("without it", y.check(), 52);
    }

    void wrongLength() {
        promise(11, "48 also when the length is not right.");
        for (int n : new int[] {0, 1, 16, 32, 47, 48, 49, 50, 63, 65, 72, 240 + 8, 255}) {
            FencedCode x = Due.blank(256);
            x.length(n);
            is("a length of " + n, x.check(), 48);
        }
        FencedCode x = Due.blank(68);
        Due.put(x, 52, 0);
        is("whatever is wrong else", x.check(), 48);
    }

    void inputsAreCounted() {
        promise(12, "One more input. How many there are;");
        FencedCode x = new FencedCode();
        for (int n = 1; n <= 20; n++) {
            is("input " + n, x.input(n % 3 == 0 ? LOW : n % 3 == 1 ? HIGH : -1), n);
        }
    }

    void inputsAreTwenty() {
        promise(12, "FULL when there are 20.");
        FencedCode x = built(CALL, READ, 0, 0, JAL, 0, 0, 0);
        for (int n = 1; n <= 20; n++) {
            x.input(n);
        }
        is("one more", x.input(21), FULL);
        is("and one more", x.input(-1), FULL);
        x.trial(39);
        is("the twentieth stays", x.register(TRIAL, 10), 20);
        x.trial(41);
        is("there is no 21st", x.register(TRIAL, 10), -1);
        x.trial(1);
        is("the first stays", x.register(TRIAL, 10), 1);
        is("a run takes none away", x.input(5), FULL);
    }

    void runsFromTheBeginning() {
        promise(13, "The machine runs the code from the beginning, at most fuel steps: 0 .. 4 as told;");
        FencedCode x = Due.code(64, e(C_ADDI, 5, 1, 0), HALF_NOP, e(JAL, 0, -4, 0));
        for (int fuel : new int[] {2000, 1, 0, 7}) {
            is("run(" + fuel + ")", x.run(fuel), 0);
            is("steps", x.state(RUN, 0), fuel);
            is("register 5", x.register(RUN, 5), (fuel + 2) / 3);
        }
        is("0", Due.blank(64).run(4), 0);
        is("1", Due.code(64, e(JAL, 0, -16, 0)).run(2), 1);
        is("2", Due.blank(64).run(5), 2);
        is("3", Due.code(64, 0).run(1), 3);
        is("4", Due.code(64, e(LW, 1, 0, 0)).run(1), 4);
        is("no code", new FencedCode().run(1), 2);
        FencedCode poked = built(ADDI, 5, 0, 1);
        Due.put(poked, 48, e(ADDI, 5, 0, 2));
        poked.run(1);
        is("the code as it is now", poked.register(RUN, 5), 2);
    }

    void runRefuses() {
        promise(13, "BAD when fuel is not 0 .. 2000.");
        FencedCode x = Due.code(64, e(ADDI, 5, 5, 1), e(JAL, 0, -4, 0));
        is("run(2000)", x.run(2000), 0);
        is("run(0)", x.run(0), 0);
        is("run(3)", x.run(3), 0);
        for (int fuel : NO_FUEL) {
            is("run(" + fuel + ")", x.run(fuel), BAD);
            stands("it is no run", x, RUN, 3, 52);
            is("register 5", x.register(RUN, 5), 2);
        }
        FencedCode none = new FencedCode();
        is("run(2001)", none.run(2001), BAD);
        stands("there was none", none, RUN, 0, 0);
        is("register 27", none.register(RUN, 27), 0);
    }

    void triesTheBuiltProgram() {
        promise(14, "The trial of the program as it was at the latest build() that was neither BAD nor FULL (no lines,"
                + " if there was none),");
        FencedCode x = Due.lines(ADDI, 3, 0, 7);
        is("there was none", x.trial(9), 2);
        stands("there was none", x, TRIAL, 0, 0);
        x.build();
        x.line(ADDI, 3, 0, 8);
        is("a line since", x.trial(9), 2);
        stands("a line since", x, TRIAL, 1, 1);
        is("register 3", x.register(TRIAL, 3), 7);
        x.clear();
        is("no lines since", x.trial(9), 2);
        stands("no lines since", x, TRIAL, 1, 1);
        x.line(BEQ, 0, 0, 2);
        is("build()", x.build(), BAD);
        is("after BAD", x.trial(9), 2);
        stands("after BAD", x, TRIAL, 1, 1);
        x.clear();
        for (int i = 0; i < 13; i++) {
            x.line(LW, 1, 20, 0);
        }
        is("build()", x.build(), FULL);
        is("after FULL", x.trial(9), 2);
        stands("after FULL", x, TRIAL, 1, 1);
        x.length(0);
        is("whatever the code is", x.trial(9), 2);
        stands("whatever the code is", x, TRIAL, 1, 1);
        x.clear();
        is("build()", x.build(), 64);
        is("after the next one", x.trial(9), 2);
        stands("after the next one", x, TRIAL, 0, 0);
        FencedCode bad = Due.lines(BEQ, 0, 0, 2);
        bad.build();
        is("BAD alone", bad.trial(9), 2);
        stands("BAD alone", bad, TRIAL, 0, 0);
    }

    void triesSoManyLines() {
        promise(14, "at most fuel lines: 0, 1, 2, 4, 5 as told;");
        FencedCode x = built(C_ADDI, 5, 1, 0, C_ADDI, 5, 1, 0);
        for (int fuel = 0; fuel <= 2; fuel++) {
            is("0", x.trial(fuel), 0);
            stands("trial(" + fuel + ")", x, TRIAL, fuel, fuel);
        }
        is("2", x.trial(3), 2);
        is("1", built(CALL, EXIT, 0, 0).trial(1), 1);
        is("4", built(LW, 1, 0, 0).trial(1), 4);
        is("5", built(JALR, 0, 0, 0).trial(1), 5);
        is("EXIT, LEFT and OUTSIDE need a line", built(CALL, EXIT, 0, 0).trial(0), 0);
        FencedCode loop = built(BEQ, 0, 0, 0);
        is("trial(2000)", loop.trial(2000), 0);
        stands("trial(2000)", loop, TRIAL, 2000, 0);
    }

    void trialRefuses() {
        promise(14, "BAD when fuel is not 0 .. 2000.");
        FencedCode x = built(C_ADDI, 5, 1, 0, BEQ, 0, 0, 0);
        is("trial(2000)", x.trial(2000), 0);
        is("trial(0)", x.trial(0), 0);
        is("trial(3)", x.trial(3), 0);
        for (int fuel : NO_FUEL) {
            is("trial(" + fuel + ")", x.trial(fuel), BAD);
            stands("it is no trial", x, TRIAL, 3, 1);
            is("register 5", x.register(TRIAL, 5), 2);
        }
    }

    void stateOfTheLatest() {
        promise(15, "After the latest run (who = 0) or trial (1): 0 the steps made, 1 the address (of the trial: the"
                + " line) where it stands, 2 how many outputs.");
        FencedCode x = built(CALL, WRITE, 0, 0, C_ADDI, 5, 1, 0, CALL, WRITE, 0, 0);
        x.run(6);
        x.trial(2);
        stands("the run", x, RUN, 6, 66);
        is("outputs of the run", x.state(RUN, 2), 1);
        stands("the trial", x, TRIAL, 2, 2);
        is("outputs of the trial", x.state(TRIAL, 2), 1);
        x.trial(3);
        stands("the run stays", x, RUN, 6, 66);
        is("outputs of the latest trial", x.state(TRIAL, 2), 2);
        x.run(1);
        stands("the latest run", x, RUN, 1, 52);
        is("outputs of the latest run", x.state(RUN, 2), 0);
        x.length(0);
        x.clear();
        x.build();
        x.input(3);
        x.check();
        stands("other calls leave the run", x, RUN, 1, 52);
        stands("other calls leave the trial", x, TRIAL, 3, 3);
        FencedCode back = Due.code(64, e(JAL, 0, -50, 0));
        back.run(9);
        is("an address below 0", back.state(RUN, 1), -2);
    }

    void stateRefuses() {
        promise(15, "BAD for any other numbers;");
        FencedCode x = built(C_ADDI, 5, 1, 0);
        for (int round = 0; round < 2; round++) {
            for (int who : NO_WHO) {
                for (int what : new int[] {-1, 0, 1, 2, 3}) {
                    is("state(" + who + ", " + what + ")", x.state(who, what), BAD);
                }
            }
            for (int what : new int[] {LOW, -1, 3, 4, HIGH}) {
                is("state(0, " + what + ")", x.state(RUN, what), BAD);
                is("state(1, " + what + ")", x.state(TRIAL, what), BAD);
            }
            x.run(1);
            x.trial(1);
        }
    }

    void stateOfNone() {
        promise(15, "0 when there was none.");
        FencedCode x = built(C_ADDI, 5, 1, 0);
        for (int what = 0; what <= 2; what++) {
            is("state(0, " + what + ")", x.state(RUN, what), 0);
            is("state(1, " + what + ")", x.state(TRIAL, what), 0);
        }
        x.run(1);
        stands("a run is no trial", x, TRIAL, 0, 0);
        FencedCode y = built(C_ADDI, 5, 1, 0);
        y.trial(1);
        stands("a trial is no run", y, RUN, 0, 0);
        y.run(-1);
        stands("a run that is BAD is none", y, RUN, 0, 0);
    }

    void outputs() {
        promise(16, "Likewise, output i; 0 when there is none.");
        FencedCode x = built(ADDI, 10, 0, -4, CALL, WRITE, 0, 0, C_ADDI, 10, 1, 0, JAL, 0, 1, 0);
        for (int i : new int[] {LOW, -1, 0, 39, 40, HIGH}) {
            is("no run, output(0, " + i + ")", x.output(RUN, i), 0);
            is("no trial, output(1, " + i + ")", x.output(TRIAL, i), 0);
        }
        x.run(2000);
        x.trial(2000);
        for (int who = 0; who <= 1; who++) {
            is("state", x.state(who, 2), 40);
            for (int i = 0; i < 40; i++) {
                is("output(" + who + ", " + i + ")", x.output(who, i), i - 4);
            }
            for (int i : new int[] {LOW, -2, -1, 40, 41, HIGH}) {
                is("output(" + who + ", " + i + ")", x.output(who, i), 0);
            }
        }
        for (int who : NO_WHO) {
            is("output(" + who + ", 0)", x.output(who, 0), 0);
        }
        x.run(1);
        is("none of an earlier run", x.output(RUN, 0), 0);
        is("the trial's stay", x.output(TRIAL, 0), -4);
        x.trial(1);
        is("none of an earlier trial", x.output(TRIAL, 0), 0);
    }

    void registers() {
        promise(17, "Likewise, register r; 0 when there is none.");
        FencedCode x = built(ADDI, 26, 0, -4, ADDI, 1, 0, 5);
        for (int r = 0; r <= 31; r++) {
            is("no run, register(0, " + r + ")", x.register(RUN, r), 0);
            is("no trial, register(1, " + r + ")", x.register(TRIAL, r), 0);
        }
        x.run(1);
        x.trial(2);
        is("register(0, 26)", x.register(RUN, 26), -4);
        is("register(0, 1)", x.register(RUN, 1), 0);
        is("register(1, 26)", x.register(TRIAL, 26), -4);
        is("register(1, 1)", x.register(TRIAL, 1), 5);
        is("register(0, 28)", x.register(RUN, 28), 4096);
        is("register(1, 28)", x.register(TRIAL, 28), 0);
        for (int r : new int[] {LOW, -1, 32, 33, HIGH}) {
            is("register(0, " + r + ")", x.register(RUN, r), 0);
            is("register(1, " + r + ")", x.register(TRIAL, r), 0);
        }
        for (int who : NO_WHO) {
            is("register(" + who + ", 26)", x.register(who, 26), 0);
        }
        FencedCode last = Due.code(64, e(ADDI, 31, 0, 7));
        last.run(1);
        is("register(0, 31)", last.register(RUN, 31), 7);
    }

    void words() {
        promise(18, "Likewise, word w (0 .. 15) of data; 0 when there is none.");
        FencedCode x = built(LUI, 20, 1, 0, ADDI, 5, 0, -4, SW, 5, 20, 0, SW, 20, 20, 60);
        for (int w = 0; w < 16; w++) {
            is("no run, word(0, " + w + ")", x.word(RUN, w), 0);
            is("no trial, word(1, " + w + ")", x.word(TRIAL, w), 0);
        }
        is("run(99)", x.run(99), 2);
        is("trial(3)", x.trial(3), 0);
        is("word(0, 0)", x.word(RUN, 0), -4);
        is("word(0, 15)", x.word(RUN, 15), 4096);
        is("word(1, 0)", x.word(TRIAL, 0), -4);
        is("word(1, 15)", x.word(TRIAL, 15), 0);
        for (int w : new int[] {LOW, -1, 16, 17, HIGH}) {
            is("word(0, " + w + ")", x.word(RUN, w), 0);
            is("word(1, " + w + ")", x.word(TRIAL, w), 0);
        }
        for (int who : NO_WHO) {
            is("word(" + who + ", 0)", x.word(who, 0), 0);
        }
    }
}
