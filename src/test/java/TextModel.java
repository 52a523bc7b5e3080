import java.util.ArrayList;
import java.util.List;

/**
 * A slow second reading of the document's INSTRUCTIONS, CHECK and MACHINE, to compare: instructions are texts
 * like "AND 31 31 29", made from their bits as a row of digits, and rules compare texts.
 */
final class TextModel extends Outcome {
    private final int[] bytes;
    private final List<Integer> inputs;

    TextModel(int[] bytes, List<Integer> inputs) {
        this.bytes = bytes;
        this.inputs = inputs;
    }

    private static String digits(int bits, int width) {
        StringBuilder text = new StringBuilder();
        for (int n = width - 1; n >= 0; n--) {
            text.append(bits >> n & 1);
        }
        return text.toString();
    }

    private static int number(String digits) {
        return Integer.parseInt(digits, 2);
    }

    private static int signed(String digits) {
        int all = number(digits);
        return digits.charAt(0) == '1' ? all - (1 << digits.length()) : all;
    }

    /** "" when the bits are illegal. */
    static String text(int bits) {
        return (bits & 3) == 3 ? longText(digits(bits, 32)) : shortText(digits(bits, 16));
    }

    private static String shortText(String b) {
        int d = number(b.substring(4, 9));
        String last = b.substring(9, 14);
        if (b.startsWith("000") && b.endsWith("01")) {
            int i = signed(b.charAt(3) + last);
            return (d == 0) == (i == 0) ? "C.ADDI " + d + " " + i : "";
        }
        boolean isMove = b.startsWith("1000") && b.endsWith("10") && d != 0 && number(last) != 0;
        return isMove ? "C.MV " + d + " " + number(last) : "";
    }

    private static String longText(String b) {
        String seven = b.substring(0, 7);
        int t = number(b.substring(7, 12));
        int s = number(b.substring(12, 17));
        int three = number(b.substring(17, 20));
        int d = number(b.substring(20, 25));
        int i = signed(b.substring(0, 12));
        switch (number(b.substring(25))) {
            case 51:
                String name = seven.equals("0100000") ? (three == 0 ? "SUB" : "") : !seven.equals("0000000") ? ""
                        : three == 0 ? "ADD" : three == 7 ? "AND" : three == 6 ? "OR" : "";
                return name.isEmpty() ? "" : name + " " + d + " " + s + " " + t;
            case 19:
                return three == 0 ? "ADDI " + d + " " + s + " " + i : "";
            case 55:
                return "LUI " + d + " " + number(b.substring(0, 20));
            case 3:
                return three == 2 ? "LW " + d + " " + s + " " + i : "";
            case 35:
                return three == 2 ? "SW " + t + " " + s + " " + signed(seven + b.substring(20, 25)) : "";
            case 99:
                String branch = three == 0 ? "BEQ" : three == 1 ? "BNE" : three == 4 ? "BLT" : "";
                int o = signed(b.charAt(0) + b.substring(24, 25) + b.substring(1, 7) + b.substring(20, 24) + "0");
                return branch.isEmpty() ? "" : branch + " " + s + " " + t + " " + o;
            case 111:
                return "JAL " + d + " " + signed(b.charAt(0) + b.substring(12, 20) + b.charAt(11)
                        + b.substring(1, 11) + "0");
            case 103:
                return three == 0 ? "JALR " + d + " " + s + " " + i : "";
            default:
                return "";
        }
    }

    /** How many bytes the instruction there has, though the code may have fewer. */
    private int sizeAt(int at) {
        return (bytes[at] & 3) == 3 ? 4 : 2;
    }

    private String textAt(int at) {
        if (at + sizeAt(at) > bytes.length) {
            return "";
        }
        int bits = 0;
        for (int n = sizeAt(at) - 1; n >= 0; n--) {
            bits = bits << 8 | bytes[at + n];
        }
        return text(bits);
    }

    int check() {
        if (bytes.length <= 48 || bytes.length % 16 != 0) {
            return 48;
        }
        List<Integer> begins = new ArrayList<>();
        List<String> texts = new ArrayList<>();
        for (int at = 48; at < bytes.length; at += sizeAt(at)) {
            if (textAt(at).isEmpty() || at / 16 != (at + sizeAt(at) - 1) / 16) {
                return at;
            }
            begins.add(at);
            texts.add(textAt(at));
        }
        for (int n = 0; n < begins.size(); n++) {
            String one = n >= 1 && begins.get(n - 1) / 16 == begins.get(n) / 16 ? texts.get(n - 1) : "";
            String two = n >= 2 && begins.get(n - 2) / 16 == begins.get(n) / 16 ? texts.get(n - 2) : "";
            if (!isRight(begins.get(n), texts.get(n), one, two, begins, texts)) {
                return begins.get(n);
            }
        }
        return -1;
    }

    private static boolean isCodeMask(String text) {
        return text.matches("AND 31 \\d+ 27");
    }

    private static boolean isRight(int at, String text, String one, String two, List<Integer> begins,
            List<String> texts) {
        boolean changes = text.matches("(ADD|SUB|AND|OR|ADDI|LUI|LW|JAL|JALR|C\\.ADDI|C\\.MV) (27|28|29|30|31) .*");
        if (changes && !text.matches("ADDI 31 .*") && !text.equals("AND 31 31 29") && !text.equals("OR 31 31 28")
                && !isCodeMask(text)) {
            return false;
        }
        if (text.matches("[LS]W .*")) {
            return text.endsWith(" 31 0") && two.equals("AND 31 31 29") && one.equals("OR 31 31 28");
        }
        if (text.startsWith("JALR ")) {
            return text.endsWith(" 31 0") && isCodeMask(one);
        }
        if (text.matches("(JAL|BEQ|BNE|BLT) .*")) {
            int to = at + Integer.parseInt(text.substring(text.lastIndexOf(' ') + 1));
            int n = begins.indexOf(to);
            boolean service = to == 0 || to == 16 || to == 32;
            return service || n >= 0 && !texts.get(n).matches("OR 31 31 28|(LW|SW|JALR) .*");
        }
        return true;
    }

    int run(int fuel) {
        registers[27] = 240;
        registers[28] = 4096;
        registers[29] = 60;
        place = 48;
        int read = 0;
        while (steps < fuel) {
            if (place == 0) {
                registers[10] = read < inputs.size() ? inputs.get(read) : -1;
                read++;
                place = registers[1] & 240;
            } else if (place == 16) {
                if (outputs.size() < 40) {
                    outputs.add(registers[10]);
                }
                place = registers[1] & 240;
            } else if (place == 32) {
                steps++;
                return 1;
            } else if (place < 48 || place >= bytes.length || place % 2 != 0) {
                return 2;
            } else if (textAt(place).isEmpty()) {
                return 3;
            } else if (!does(textAt(place).split(" "), place + sizeAt(place))) {
                return 4;
            }
            registers[0] = 0;
            steps++;
        }
        return 0;
    }

    /** False when it is outside of data. */
    private boolean does(String[] words, int next) {
        int a = Integer.parseInt(words[1]);
        int b = Integer.parseInt(words[2]);
        int c = words.length > 3 ? Integer.parseInt(words[3]) : 0;
        int from = place;
        place = next;
        switch (words[0]) {
            case "ADD": registers[a] = registers[b] + registers[c]; break;
            case "SUB": registers[a] = registers[b] - registers[c]; break;
            case "AND": registers[a] = registers[b] & registers[c]; break;
            case "OR": registers[a] = registers[b] | registers[c]; break;
            case "ADDI": registers[a] = registers[b] + c; break;
            case "LUI": registers[a] = b * 4096; break;
            case "C.ADDI": registers[a] = registers[a] + b; break;
            case "C.MV": registers[a] = registers[b]; break;
            case "BEQ": place = registers[a] == registers[b] ? from + c : next; break;
            case "BNE": place = registers[a] != registers[b] ? from + c : next; break;
            case "BLT": place = registers[a] < registers[b] ? from + c : next; break;
            case "JAL": registers[a] = next; place = from + b; break;
            case "JALR": place = registers[b] + c & -2; registers[a] = next; break;
            default:
                if (!moves(words[0].equals("LW"), a, registers[b] + c)) {
                    place = from;
                    return false;
                }
        }
        return true;
    }
}
