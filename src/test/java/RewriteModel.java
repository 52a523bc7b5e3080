import java.util.ArrayList;
import java.util.List;

/** Rewriting as the document tells it, by trying paddings one after the other: slow, and of its own make. */
final class RewriteModel {
    final int[] addresses;
    final List<Integer> bytes = new ArrayList<>();
    final int size;

    private final int[] lines;
    private final int count;

    /** Lines are four numbers each. */
    RewriteModel(int[] lines) {
        this.lines = lines;
        count = lines.length / 4;
        addresses = new int[count + 1];
        write();
        bytes.clear();
        // Once more, for the jumps forward: by now all addresses are known.
        write();
        size = bytes.size();
    }

    private void write() {
        for (int i = 0; i < 48; i++) {
            bytes.add(0);
        }
        for (int n = 0; n <= count; n++) {
            if (isTaken(n)) {
                pad(paddingFor(0, false, true));
            }
            addresses[n] = bytes.size();
            if (n < count) {
                pad(paddingFor(size(n), mustEnd(n), false));
                line(n);
            }
        }
        int rest = 2;
        while ((bytes.size() + rest) % 16 != 0) {
            rest += 2;
        }
        pad(rest);
    }

    private boolean isTaken(int target) {
        for (int n = 0; n < count; n++) {
            if (lines[4 * n] == 16 && lines[4 * n + 2] == target) {
                return true;
            }
        }
        return false;
    }

    private int size(int n) {
        int kind = lines[4 * n];
        return kind == 6 || kind == 7 ? 16 : kind == 12 ? 8 : kind == 13 || kind == 14 ? 2 : 4;
    }

    private boolean mustEnd(int n) {
        int kind = lines[4 * n];
        return kind == 15 || (kind == 11 || kind == 12) && lines[4 * n + 1] != 0;
    }

    private int paddingFor(int size, boolean atEnd, boolean atBeginning) {
        for (int padding = 0; ; padding += 2) {
            int begin = bytes.size() + padding;
            int end = begin + size;
            boolean inOne = size == 0 || begin / 16 == (end - 1) / 16;
            if (inOne && (!atEnd || end % 16 == 0) && (!atBeginning || begin % 16 == 0)) {
                return padding;
            }
        }
    }

    private void pad(int n) {
        if (n % 4 != 0) {
            put(1, 2);
        }
        for (int i = 0; i < n / 4; i++) {
            put(19, 4);
        }
    }

    private void put(int bits, int size) {
        for (int i = 0; i < size; i++) {
            bytes.add(bits >>> 8 * i & 255);
        }
    }

    private void put(int kind, int a, int b, int c) {
        put(FaceModel.encode(kind, a, b, c), kind >= 13 ? 2 : 4);
    }

    private void line(int n) {
        int kind = lines[4 * n];
        int a = lines[4 * n + 1];
        int b = lines[4 * n + 2];
        int c = lines[4 * n + 3];
        int here = bytes.size();
        if (kind == 6 || kind == 7) {
            put(4, 31, b, c);
            put(2, 31, 31, 29);
            put(3, 31, 31, 28);
            put(kind, a, 31, 0);
        } else if (kind >= 8 && kind <= 10) {
            put(kind, a, b, addresses[c] - here);
        } else if (kind == 11) {
            put(11, a, addresses[b] - here, 0);
        } else if (kind == 12) {
            put(2, 31, b, 27);
            put(12, a, 31, 0);
        } else if (kind == 15) {
            put(11, 1, a * 16 - here, 0);
        } else if (kind == 16) {
            put(4, a, 0, addresses[b]);
        } else {
            put(kind, a, b, c);
        }
    }
}
