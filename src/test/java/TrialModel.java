import java.util.List;

/** A slow second reading of THE TRIAL: lines of four numbers each, with the addresses that rewriting gave. */
final class TrialModel extends Outcome {
    private final int[] lines;
    private final int[] addresses;
    private final List<Integer> inputs;
    private int read;

    TrialModel(int[] lines, int[] addresses, List<Integer> inputs) {
        this.lines = lines;
        this.addresses = addresses;
        this.inputs = inputs;
    }

    int go(int fuel) {
        for (int made = 0; made < fuel; made++) {
            if (place == lines.length / 4) {
                return 2;
            }
            int end = does(lines[4 * place], lines[4 * place + 1], lines[4 * place + 2], lines[4 * place + 3]);
            registers[0] = 0;
            if (end > 1) {
                return end;
            }
            steps++;
            if (end == 1) {
                return 1;
            }
        }
        return 0;
    }

    private int does(int kind, int a, int b, int c) {
        if (kind == 6 || kind == 7) {
            if (!moves(kind == 6, a, registers[b] + c)) {
                return 4;
            }
        } else if (kind == 12) {
            return leap(a, registers[b]);
        } else if (kind == 15) {
            return call(a);
        } else if (kind >= 8 && kind <= 11) {
            return jump(kind, a, b, c);
        } else {
            registers[a] = value(kind, a, b, c);
        }
        place++;
        return 0;
    }

    private int value(int kind, int a, int b, int c) {
        switch (kind) {
            case 0: return registers[b] + registers[c];
            case 1: return registers[b] - registers[c];
            case 2: return registers[b] & registers[c];
            case 3: return registers[b] | registers[c];
            case 4: return registers[b] + c;
            case 5: return b * 4096;
            case 13: return registers[a] + b;
            case 14: return registers[b];
            default: return addresses[b];
        }
    }

    private int jump(int kind, int a, int b, int c) {
        boolean goes = kind == 8 ? registers[a] == registers[b] : kind == 9 ? registers[a] != registers[b]
                : kind == 11 || registers[a] < registers[b];
        if (kind == 11) {
            registers[a] = addresses[place + 1];
        }
        place = !goes ? place + 1 : kind == 11 ? b : c;
        return 0;
    }

    private int leap(int d, int to) {
        for (int target = 0; target < addresses.length; target++) {
            if (addresses[target] == to && to % 16 == 0) {
                registers[d] = addresses[place + 1];
                place = target;
                return 0;
            }
        }
        return 5;
    }

    private int call(int service) {
        registers[1] = addresses[place + 1];
        if (service == 2) {
            return 1;
        }
        if (service == 0) {
            registers[10] = read < inputs.size() ? inputs.get(read) : -1;
            read++;
        } else if (outputs.size() < 40) {
            outputs.add(registers[10]);
        }
        place++;
        return 0;
    }
}
