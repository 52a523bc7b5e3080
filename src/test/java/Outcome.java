import java.util.ArrayList;
import java.util.List;

/** What a run or a trial of a model leaves behind, and what both do alike with words of data. */
class Outcome {
    final int[] registers = new int[32];
    final int[] data = new int[16];
    final List<Integer> outputs = new ArrayList<>();
    int steps;
    int place;

    /** LW, or SW if not; false, with nothing changed, when there is no word of data at the address. */
    final boolean moves(boolean isLoad, int register, int address) {
        for (int word = 0; word < 16; word++) {
            if (address == 4096 + 4 * word) {
                if (isLoad) {
                    registers[register] = data[word];
                } else {
                    data[word] = registers[register];
                }
                return true;
            }
        }
        return false;
    }

    /** Says of every number that state, output, register and word tell whether it is as due. */
    final void compare(Due due, String name, FencedCode x, int who) {
        due.is(name + ": steps", x.state(who, 0), steps);
        due.is(name + ": place", x.state(who, 1), place);
        due.is(name + ": outputs", x.state(who, 2), outputs.size());
        for (int i = 0; i < 41; i++) {
            due.is(name + ": output " + i, x.output(who, i), i < outputs.size() ? outputs.get(i) : 0);
        }
        for (int r = 0; r < 32; r++) {
            due.is(name + ": register " + r, x.register(who, r), registers[r]);
        }
        for (int w = 0; w < 16; w++) {
            due.is(name + ": word " + w, x.word(who, w), data[w]);
        }
    }
}
