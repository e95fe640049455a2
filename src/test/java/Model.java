import java.util.ArrayList;
import java.util.List;

/**
 * The document once more, as plainly as it can be said and in other ways than the class: matrices
 * of long, powers one product at a time, values as texts, and all code made anew when it is asked.
 */
final class Model {
    private static final String NOUGHT = "2:";
    private static final String ONE = "1:";

    private final int p;
    private final int n;
    private List<Integer> words = new ArrayList<>();
    private long[][][] inputs;
    /** Instructions as {operation, a, b}; null if there is no code. */
    private List<int[]> code = null;
    private int done = 0;
    private long[][] direct = null;

    Model(int p, int n) {
        this.p = p < 2 || p > 97 ? 7 : p;
        this.n = n < 1 || n > 4 ? 2 : n;
        inputs = new long[4][this.n][this.n];
    }

    int feed(int word) {
        if (words.size() == 24 || code != null) {
            return 1;
        }
        words.add(word);
        return 0;
    }

    int setInput(int m, int i, int j, int v) {
        if (m < 0 || m > 3 || i < 0 || i >= n || j < 0 || j >= n) {
            return 2;
        }
        inputs[m][i][j] = ((long) v % p + p) % p;
        done = 0;
        return 0;
    }

    private int fault() {
        int there = 0;
        for (int word : words) {
            if (word < 0 || word > 899 || word < 100 && word > 3
                    || word > 99 && word < 700 && word % 100 > 0) {
                return 3;
            }
            int needs = word < 300 ? 0 : word < 600 ? 2 : 1;
            if (needs > there) {
                return 4;
            }
            there = there - needs + 1;
        }
        return there == 1 ? 0 : 5;
    }

    int compile() {
        int fault = fault();
        if (fault != 0) {
            return fault;
        }
        List<int[]> made = new ArrayList<>();
        List<Integer> there = new ArrayList<>();
        for (int word : words) {
            compileWord(word / 100, word % 100, made, there);
        }
        if (made.size() > 40) {
            return 6;
        }
        code = made;
        done = 0;
        return 0;
    }

    private static int pop(List<Integer> there) {
        return there.remove(there.size() - 1);
    }

    private static void compileWord(int operation, int x, List<int[]> made, List<Integer> there) {
        if (operation == 8) {
            there.add(compilePower(pop(there), x, made));
            return;
        }
        int b = operation >= 3 && operation <= 5 ? pop(there) : x;
        int a = operation >= 3 ? pop(there) : 0;
        made.add(new int[] {operation, a, b});
        there.add(made.size() - 1);
    }

    private static int compilePower(int a, int x, List<int[]> made) {
        if (x == 0) {
            made.add(new int[] {1, 0, 0});
            return made.size() - 1;
        }
        int r = a;
        for (char digit : Integer.toBinaryString(x).substring(1).toCharArray()) {
            made.add(new int[] {5, r, r});
            r = made.size() - 1;
            if (digit == '1') {
                made.add(new int[] {5, r, a});
                r = made.size() - 1;
            }
        }
        return r;
    }

    /** A value is "operation:part,part", a part being a place in the list or a number. */
    int optimise() {
        if (code == null) {
            return 7;
        }
        List<String> values = new ArrayList<>();
        List<Integer> valueOf = new ArrayList<>();
        for (int[] instruction : code) {
            valueOf.add(value(instruction, valueOf, values));
        }
        List<Integer> needed = new ArrayList<>();
        need(valueOf.get(valueOf.size() - 1), values, needed);
        needed.sort(null);
        code = new ArrayList<>();
        for (int v : needed) {
            int[] made = parts(values.get(v));
            if (made[0] >= 3) {
                made[1] = needed.indexOf(made[1]);
            }
            if (made[0] >= 3 && made[0] <= 5) {
                made[2] = needed.indexOf(made[2]);
            }
            code.add(made);
        }
        done = 0;
        return 0;
    }

    private static int[] parts(String value) {
        int operation = Integer.parseInt(value.substring(0, 1));
        String rest = value.substring(2);
        int comma = rest.indexOf(',');
        int a = comma < 0 ? 0 : Integer.parseInt(rest.substring(0, comma));
        int b = comma < 0 ? 0 : Integer.parseInt(rest.substring(comma + 1));
        return new int[] {operation, a, b};
    }

    private static void need(int v, List<String> values, List<Integer> needed) {
        if (needed.contains(v)) {
            return;
        }
        needed.add(v);
        int[] made = parts(values.get(v));
        if (made[0] >= 3) {
            need(made[1], values, needed);
        }
        if (made[0] >= 3 && made[0] <= 5) {
            need(made[2], values, needed);
        }
    }

    private static int that(String value, List<String> values) {
        if (!values.contains(value)) {
            values.add(value);
        }
        return values.indexOf(value);
    }

    private int value(int[] instruction, List<Integer> valueOf, List<String> values) {
        int operation = instruction[0];
        if (operation == 0) {
            return that("0:0," + instruction[2], values);
        }
        if (operation < 3) {
            return that(operation + ":", values);
        }
        int v = valueOf.get(instruction[1]);
        if (operation == 7) {
            return scale(v, instruction[2], values);
        }
        if (operation == 6) {
            return turn(v, values);
        }
        return ofTwo(operation, v, valueOf.get(instruction[2]), values);
    }

    private static int ofTwo(int operation, int v, int w, List<String> values) {
        boolean vIsNought = values.get(v).equals(NOUGHT);
        boolean wIsNought = values.get(w).equals(NOUGHT);
        if (operation == 5) {
            if (vIsNought || wIsNought) {
                return that(NOUGHT, values);
            }
            if (values.get(w).equals(ONE)) {
                return v;
            }
            return values.get(v).equals(ONE) ? w : that("5:" + v + "," + w, values);
        }
        if (wIsNought) {
            return v;
        }
        if (operation == 4) {
            return v == w ? that(NOUGHT, values) : that("4:" + v + "," + w, values);
        }
        if (vIsNought) {
            return w;
        }
        return v < w ? that("3:" + v + "," + w, values) : that("3:" + w + "," + v, values);
    }

    private static int turn(int v, List<String> values) {
        String value = values.get(v);
        if (value.equals(ONE) || value.equals(NOUGHT)) {
            return v;
        }
        return value.startsWith("6:") ? parts(value)[1] : that("6:" + v + ",0", values);
    }

    private int scale(int v, int number, List<String> values) {
        int x = number % p;
        String value = values.get(v);
        if (x == 0 || value.equals(NOUGHT)) {
            return that(NOUGHT, values);
        }
        if (x == 1) {
            return v;
        }
        if (value.startsWith("7:")) {
            int[] made = parts(value);
            return scale(made[1], made[2] * x % p, values);
        }
        return that("7:" + v + "," + x, values);
    }

    int run(int fuel) {
        if (code == null) {
            return 7;
        }
        done += Math.max(0, Math.min(fuel, code.size() - done));
        return done == code.size() ? 0 : 8;
    }

    int out(int i, int j) {
        if (code == null || done < code.size()) {
            return -1;
        }
        List<long[][]> registers = new ArrayList<>();
        for (int[] instruction : code) {
            int a = instruction[1];
            int b = instruction[2];
            long[][] left = instruction[0] >= 3 ? registers.get(a) : null;
            boolean isOfTwo = instruction[0] >= 3 && instruction[0] <= 5;
            registers.add(work(instruction[0], left, isOfTwo ? registers.get(b) : null, b));
        }
        return cell(registers.get(registers.size() - 1), i, j);
    }

    private int cell(long[][] matrix, int i, int j) {
        return i < 0 || i >= n || j < 0 || j >= n ? -1 : (int) matrix[i][j];
    }

    private long[][] work(int operation, long[][] left, long[][] right, int x) {
        long[][] made = new long[n][n];
        for (int i = 0; i < n; i++) {
            for (int j = 0; j < n; j++) {
                made[i][j] = Math.floorMod(workCell(operation, left, right, x, i, j), (long) p);
            }
        }
        return made;
    }

    private long workCell(int operation, long[][] left, long[][] right, int x, int i, int j) {
        switch (operation) {
            case 0: return inputs[x][i][j];
            case 1: return i == j ? 1 : 0;
            case 2: return 0;
            case 3: return left[i][j] + right[i][j];
            case 4: return left[i][j] - right[i][j];
            case 6: return left[j][i];
            case 7: return left[i][j] * x;
            default:
                long sum = 0;
                for (int k = 0; k < n; k++) {
                    sum += left[i][k] * right[k][j];
                }
                return sum;
        }
    }

    int evalDirect() {
        int fault = fault();
        if (fault != 0) {
            return fault;
        }
        List<long[][]> there = new ArrayList<>();
        for (int word : words) {
            int operation = word / 100;
            long[][] right = operation >= 3 && operation <= 5 ? popMatrix(there) : null;
            long[][] left = operation >= 3 ? popMatrix(there) : null;
            there.add(operation == 8 ? power(left, word % 100)
                    : work(operation, left, right, word % 100));
        }
        direct = there.get(0);
        return 0;
    }

    private static long[][] popMatrix(List<long[][]> there) {
        return there.remove(there.size() - 1);
    }

    private long[][] power(long[][] matrix, int x) {
        long[][] made = work(1, null, null, 0);
        for (int k = 0; k < x; k++) {
            made = work(5, made, matrix, 0);
        }
        return made;
    }

    int outDirect(int i, int j) {
        return direct == null ? -1 : cell(direct, i, j);
    }

    int codeAt(int i) {
        if (code == null || i < 0 || i >= code.size()) {
            return -1;
        }
        int[] instruction = code.get(i);
        return 10000 * instruction[0] + 100 * instruction[1] + instruction[2];
    }

    int codeSize() {
        return code == null ? -1 : code.size();
    }

    int products() {
        return code == null ? -1 : (int) code.stream().filter(c -> c[0] == 5).count();
    }

    void reset() {
        words = new ArrayList<>();
        code = null;
        done = 0;
        direct = null;
        inputs = new long[4][n][n];
    }
}
