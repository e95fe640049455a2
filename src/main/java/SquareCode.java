/**
 * Expressions over square matrices modulo a number: fed backwards word by word, worked out
 * directly, compiled to code for registers, optimised, and run as far as there is fuel.
 */
public final class SquareCode {
    private static final int PUSH = 0;
    private static final int ONE = 1;
    private static final int NOUGHT = 2;
    private static final int ADD = 3;
    private static final int SUB = 4;
    private static final int MUL = 5;
    private static final int TURN = 6;
    private static final int SCALE = 7;
    private static final int POWER = 8;

    private static final int DONE = 0;
    private static final int NO_MORE_WORDS = 1;
    private static final int NO_SUCH_PLACE = 2;
    private static final int NOT_A_WORD = 3;
    private static final int TOO_FEW_MATRICES = 4;
    private static final int NOT_ONE_MATRIX = 5;
    private static final int TOO_MUCH_CODE = 6;
    private static final int NO_CODE = 7;
    private static final int OUT_OF_FUEL = 8;
    private static final int NOTHING = -1;

    private static final int LEAST_MODULUS = 2;
    private static final int MOST_MODULUS = 97;
    private static final int USUAL_MODULUS = 7;
    private static final int LEAST_SIDE = 1;
    private static final int MOST_SIDE = 4;
    private static final int USUAL_SIDE = 2;
    private static final int INPUTS = 4;
    private static final int WORD_LIMIT = 24;
    private static final int CODE_LIMIT = 40;

    /** A word and an instruction both hold their parts as digits in base 100. */
    private static final int BASE = 100;

    /** Registers come first in the store, so that a register's number is its place there. */
    private static final int FIRST_INPUT = CODE_LIMIT;
    private static final int FIRST_STACKED = FIRST_INPUT + INPUTS;
    private static final int FACTOR = FIRST_STACKED + WORD_LIMIT;
    private static final int WORKED_OUT = FACTOR + 1;
    private static final int PLACES = WORKED_OUT + 1;

    private final Matrices matrices;
    private final Source source;
    private final Code code;
    private final Compiler compiler;
    private final Optimiser optimiser;
    private int instructionsDone;
    private boolean isWorkedOut;

    public SquareCode(int p, int n) {
        int modulus = p >= LEAST_MODULUS && p <= MOST_MODULUS ? p : USUAL_MODULUS;
        int side = n >= LEAST_SIDE && n <= MOST_SIDE ? n : USUAL_SIDE;
        matrices = new Matrices(modulus, side);
        source = new Source();
        code = new Code();
        compiler = new Compiler();
        optimiser = new Optimiser(modulus);
        instructionsDone = 0;
        isWorkedOut = false;
    }

    public int feed(int word) {
        if (source.isFull() || hasCode()) {
            return NO_MORE_WORDS;
        }
        source.append(word);
        return DONE;
    }

    public int setInput(int m, int i, int j, int v) {
        if (m < 0 || m >= INPUTS || !matrices.hasCell(i, j)) {
            return NO_SUCH_PLACE;
        }
        matrices.put(FIRST_INPUT + m, i, j, v);
        rewind();
        return DONE;
    }

    public int compile() {
        int fault = source.fault();
        if (fault != DONE) {
            return fault;
        }
        if (source.instructionsNeeded() > CODE_LIMIT) {
            return TOO_MUCH_CODE;
        }
        compiler.translate(source, code);
        rewind();
        return DONE;
    }

    public int optimise() {
        if (!hasCode()) {
            return NO_CODE;
        }
        optimiser.improve(code);
        rewind();
        return DONE;
    }

    public int run(int fuel) {
        if (!hasCode()) {
            return NO_CODE;
        }
        int steps = Math.min(Math.max(fuel, 0), code.length() - instructionsDone);
        for (int step = 0; step < steps; step++) {
            int k = instructionsDone;
            matrices.apply(code.operation(k), k, code.first(k), code.second(k));
            instructionsDone++;
        }
        return isAllDone() ? DONE : OUT_OF_FUEL;
    }

    public int evalDirect() {
        int fault = source.fault();
        if (fault != DONE) {
            return fault;
        }
        workOut();
        matrices.copy(WORKED_OUT, FIRST_STACKED);
        isWorkedOut = true;
        return DONE;
    }

    public int out(int i, int j) {
        if (!hasCode() || !isAllDone() || !matrices.hasCell(i, j)) {
            return NOTHING;
        }
        return matrices.get(code.result(), i, j);
    }

    public int outDirect(int i, int j) {
        if (!isWorkedOut || !matrices.hasCell(i, j)) {
            return NOTHING;
        }
        return matrices.get(WORKED_OUT, i, j);
    }

    public int codeAt(int i) {
        return i >= 0 && i < code.length() ? code.instruction(i) : NOTHING;
    }

    public int codeSize() {
        return hasCode() ? code.length() : NOTHING;
    }

    public int products() {
        return hasCode() ? code.count(MUL) : NOTHING;
    }

    public void reset() {
        source.clear();
        code.clear();
        rewind();
        isWorkedOut = false;
        for (int m = 0; m < INPUTS; m++) {
            matrices.makeNought(FIRST_INPUT + m);
        }
    }

    /** Code is never empty once there is some: a source without fault leaves a matrix. */
    private boolean hasCode() {
        return code.length() > 0;
    }

    private boolean isAllDone() {
        return instructionsDone == code.length();
    }

    private void rewind() {
        instructionsDone = 0;
    }

    /** Works a source without fault out; the outcome is the lowest matrix of the stack. */
    private void workOut() {
        int top = FIRST_STACKED;
        for (int k = 0; k < source.length(); k++) {
            int operation = source.operation(k);
            int number = source.number(k);
            int operands = operandsOf(operation);
            top -= operands;
            if (operation == POWER) {
                matrices.raise(top, number);
            } else {
                matrices.apply(operation, top, top, operands == 2 ? top + 1 : number);
            }
            top++;
        }
    }

    /** How many matrices an operation takes. */
    private static int operandsOf(int operation) {
        switch (operation) {
            case PUSH:
            case ONE:
            case NOUGHT:
                return 0;
            case ADD:
            case SUB:
            case MUL:
                return 2;
            default:
                return 1;
        }
    }

    /** The place of the highest 1 among the binary digits of a number 1 .. 99. */
    private static int topDigit(int number) {
        int place = 0;
        for (int rest = number >> 1; rest > 0; rest >>= 1) {
            place++;
        }
        return place;
    }

    private static boolean isDigitOne(int number, int place) {
        return ((number >> place) & 1) == 1;
    }

    /** All matrices of the object in one row of cells, each known by its place in the row. */
    private static final class Matrices {
        private final int modulus;
        private final int side;
        private final int size;
        private final int[] cells;
        private final int[] fresh;

        Matrices(int modulus, int side) {
            this.modulus = modulus;
            this.side = side;
            size = side * side;
            cells = new int[PLACES * size];
            fresh = new int[size];
        }

        boolean hasCell(int i, int j) {
            return i >= 0 && i < side && j >= 0 && j < side;
        }

        int get(int matrix, int i, int j) {
            return cells[matrix * size + i * side + j];
        }

        void put(int matrix, int i, int j, int number) {
            cells[matrix * size + i * side + j] = Math.floorMod(number, modulus);
        }

        /** Does one operation but POWER; right is a matrix, or the number of PUSH and SCALE. */
        void apply(int operation, int to, int left, int right) {
            switch (operation) {
                case PUSH:
                    copy(to, FIRST_INPUT + right);
                    break;
                case ONE:
                    makeOne(to);
                    break;
                case NOUGHT:
                    makeNought(to);
                    break;
                case ADD:
                    combine(to, left, right, 1);
                    break;
                case SUB:
                    combine(to, left, right, modulus - 1);
                    break;
                case MUL:
                    multiply(to, left, right);
                    break;
                case TURN:
                    turn(to, left);
                    break;
                default:
                    scale(to, left, right);
                    break;
            }
        }

        void copy(int to, int from) {
            System.arraycopy(cells, from * size, cells, to * size, size);
        }

        void makeNought(int to) {
            for (int c = 0; c < size; c++) {
                cells[to * size + c] = 0;
            }
        }

        private void makeOne(int to) {
            makeNought(to);
            for (int i = 0; i < side; i++) {
                put(to, i, i, 1);
            }
        }

        /** Left and factor times right: with the factor P - 1 that is left less right. */
        private void combine(int to, int left, int right, int factor) {
            for (int c = 0; c < size; c++) {
                int sum = cells[left * size + c] + factor * cells[right * size + c];
                cells[to * size + c] = sum % modulus;
            }
        }

        private void multiply(int to, int left, int right) {
            for (int i = 0; i < side; i++) {
                for (int j = 0; j < side; j++) {
                    int sum = 0;
                    for (int k = 0; k < side; k++) {
                        sum += get(left, i, k) * get(right, k, j);
                    }
                    fresh[i * side + j] = sum % modulus;
                }
            }
            keepFresh(to);
        }

        private void turn(int to, int from) {
            for (int i = 0; i < side; i++) {
                for (int j = 0; j < side; j++) {
                    fresh[i * side + j] = get(from, j, i);
                }
            }
            keepFresh(to);
        }

        /** The outcome is made apart, because its place may be that of an operand. */
        private void keepFresh(int to) {
            System.arraycopy(fresh, 0, cells, to * size, size);
        }

        private void scale(int to, int from, int number) {
            for (int c = 0; c < size; c++) {
                cells[to * size + c] = cells[from * size + c] * number % modulus;
            }
        }

        /** Raises a matrix where it stands, by squares so that a high power stays cheap. */
        void raise(int matrix, int exponent) {
            if (exponent == 0) {
                makeOne(matrix);
                return;
            }
            copy(FACTOR, matrix);
            for (int place = topDigit(exponent) - 1; place >= 0; place--) {
                multiply(matrix, matrix, matrix);
                if (isDigitOne(exponent, place)) {
                    multiply(matrix, matrix, FACTOR);
                }
            }
        }
    }

    /** The words as they were fed; they may be anything, so fault() is asked before use. */
    private static final class Source {
        private final int[] words;
        private int length;

        Source() {
            words = new int[WORD_LIMIT];
            length = 0;
        }

        int length() {
            return length;
        }

        boolean isFull() {
            return length >= WORD_LIMIT;
        }

        void append(int word) {
            words[length] = word;
            length++;
        }

        void clear() {
            length = 0;
        }

        int operation(int k) {
            return words[k] / BASE;
        }

        int number(int k) {
            return words[k] % BASE;
        }

        int fault() {
            int there = 0;
            for (int k = 0; k < length; k++) {
                if (!isWord(words[k])) {
                    return NOT_A_WORD;
                }
                int operands = operandsOf(operation(k));
                if (there < operands) {
                    return TOO_FEW_MATRICES;
                }
                there += 1 - operands;
            }
            return there == 1 ? DONE : NOT_ONE_MATRIX;
        }

        /** How much code a source without fault makes, told before any code is touched. */
        int instructionsNeeded() {
            int sum = 0;
            for (int k = 0; k < length; k++) {
                sum += operation(k) == POWER ? powerInstructions(number(k)) : 1;
            }
            return sum;
        }

        private static int powerInstructions(int exponent) {
            if (exponent == 0) {
                return 1;
            }
            return topDigit(exponent) + Integer.bitCount(exponent) - 1;
        }

        private static boolean isWord(int word) {
            if (word < 0) {
                return false;
            }
            int number = word % BASE;
            switch (word / BASE) {
                case PUSH:
                    return number < INPUTS;
                case ONE:
                case NOUGHT:
                case ADD:
                case SUB:
                case MUL:
                case TURN:
                    return number == 0;
                case SCALE:
                case POWER:
                    return true;
                default:
                    return false;
            }
        }
    }

    /** A row of instructions, each an operation with two parts, held in the form of codeAt. */
    private static final class Code {
        private final int[] instructions;
        private int length;

        Code() {
            instructions = new int[CODE_LIMIT];
            length = 0;
        }

        int length() {
            return length;
        }

        void clear() {
            length = 0;
        }

        int instruction(int k) {
            return instructions[k];
        }

        int operation(int k) {
            return instructions[k] / (BASE * BASE);
        }

        int first(int k) {
            return instructions[k] / BASE % BASE;
        }

        int second(int k) {
            return instructions[k] % BASE;
        }

        /** The last one: the newest matrix is always the one that the newest word left. */
        int result() {
            return length - 1;
        }

        int count(int operation) {
            int sum = 0;
            for (int k = 0; k < length; k++) {
                if (operation(k) == operation) {
                    sum++;
                }
            }
            return sum;
        }

        int append(int operation, int first, int second) {
            instructions[length] = packed(operation, first, second);
            length++;
            return length - 1;
        }

        /** Where such an instruction stands already, or else where it is put. */
        int findOrAppend(int operation, int first, int second) {
            int wanted = packed(operation, first, second);
            for (int k = 0; k < length; k++) {
                if (instructions[k] == wanted) {
                    return k;
                }
            }
            return append(operation, first, second);
        }

        private static int packed(int operation, int first, int second) {
            return (operation * BASE + first) * BASE + second;
        }
    }

    /** Turns a source without fault, and not too long for it, into code. */
    private static final class Compiler {
        /** The registers of the matrices that are there. */
        private final int[] registers;

        Compiler() {
            registers = new int[WORD_LIMIT];
        }

        void translate(Source source, Code code) {
            code.clear();
            int there = 0;
            for (int k = 0; k < source.length(); k++) {
                int operation = source.operation(k);
                there -= operandsOf(operation);
                registers[there] = instructionsFor(operation, source.number(k), there, code);
                there++;
            }
        }

        /** Appends what a word makes and answers the register of its outcome. */
        private int instructionsFor(int operation, int number, int there, Code code) {
            switch (operation) {
                case PUSH:
                case ONE:
                case NOUGHT:
                    return code.append(operation, 0, number);
                case ADD:
                case SUB:
                case MUL:
                    return code.append(operation, registers[there], registers[there + 1]);
                case POWER:
                    return powerOf(registers[there], number, code);
                default:
                    return code.append(operation, registers[there], number);
            }
        }

        private static int powerOf(int register, int exponent, Code code) {
            if (exponent == 0) {
                return code.append(ONE, 0, 0);
            }
            int power = register;
            for (int place = topDigit(exponent) - 1; place >= 0; place--) {
                power = code.append(MUL, power, power);
                if (isDigitOne(exponent, place)) {
                    power = code.append(MUL, power, register);
                }
            }
            return power;
        }
    }

    /** Gives each instruction a value and writes the code anew from the values it needs. */
    private static final class Optimiser {
        private final int modulus;
        /** The values in the order in which they came; their parts are values themselves. */
        private final Code values;
        private final int[] valueOf;
        private final boolean[] isNeeded;
        private final int[] registerOf;

        Optimiser(int modulus) {
            this.modulus = modulus;
            values = new Code();
            valueOf = new int[CODE_LIMIT];
            isNeeded = new boolean[CODE_LIMIT];
            registerOf = new int[CODE_LIMIT];
        }

        void improve(Code code) {
            values.clear();
            for (int k = 0; k < code.length(); k++) {
                valueOf[k] = value(code.operation(k), code.first(k), code.second(k));
            }
            markNeeded(valueOf[code.result()]);
            rewrite(code);
        }

        private int value(int operation, int first, int second) {
            switch (operation) {
                case ADD:
                    return sum(valueOf[first], valueOf[second]);
                case SUB:
                    return difference(valueOf[first], valueOf[second]);
                case MUL:
                    return product(valueOf[first], valueOf[second]);
                case TURN:
                    return turned(valueOf[first]);
                case SCALE:
                    return scaled(valueOf[first], second % modulus);
                default:
                    return values.findOrAppend(operation, first, second);
            }
        }

        private boolean is(int operation, int value) {
            return values.operation(value) == operation;
        }

        private int nought() {
            return values.findOrAppend(NOUGHT, 0, 0);
        }

        private int sum(int v, int w) {
            if (is(NOUGHT, w)) {
                return v;
            }
            if (is(NOUGHT, v)) {
                return w;
            }
            return values.findOrAppend(ADD, Math.min(v, w), Math.max(v, w));
        }

        private int difference(int v, int w) {
            if (is(NOUGHT, w)) {
                return v;
            }
            if (v == w) {
                return nought();
            }
            return values.findOrAppend(SUB, v, w);
        }

        private int product(int v, int w) {
            if (is(NOUGHT, v) || is(NOUGHT, w)) {
                return nought();
            }
            if (is(ONE, w)) {
                return v;
            }
            if (is(ONE, v)) {
                return w;
            }
            return values.findOrAppend(MUL, v, w);
        }

        private int turned(int v) {
            if (is(ONE, v) || is(NOUGHT, v)) {
                return v;
            }
            if (is(TURN, v)) {
                return values.first(v);
            }
            return values.findOrAppend(TURN, v, 0);
        }

        /**
         * A SCALE is opened first, which the rules allow: with x = 0 or x = 1 the outcome is
         * the same. What stands inside it is no SCALE, so once is enough.
         */
        private int scaled(int v, int x) {
            boolean isScale = is(SCALE, v);
            int inner = isScale ? values.first(v) : v;
            int factor = isScale ? values.second(v) * x % modulus : x;
            if (factor == 0 || is(NOUGHT, inner)) {
                return nought();
            }
            if (factor == 1) {
                return inner;
            }
            return values.findOrAppend(SCALE, inner, factor);
        }

        /** Parts come before what is made of them, so one way down finds them all. */
        private void markNeeded(int result) {
            for (int v = 0; v < values.length(); v++) {
                isNeeded[v] = v == result;
            }
            for (int v = result; v >= 0; v--) {
                if (!isNeeded[v]) {
                    continue;
                }
                int operands = operandsOf(values.operation(v));
                if (operands >= 1) {
                    isNeeded[values.first(v)] = true;
                }
                if (operands == 2) {
                    isNeeded[values.second(v)] = true;
                }
            }
        }

        private void rewrite(Code code) {
            code.clear();
            for (int v = 0; v < values.length(); v++) {
                if (isNeeded[v]) {
                    registerOf[v] = rewritten(v, code);
                }
            }
        }

        private int rewritten(int v, Code code) {
            int operation = values.operation(v);
            int operands = operandsOf(operation);
            int first = operands >= 1 ? registerOf[values.first(v)] : 0;
            int second = operands == 2 ? registerOf[values.second(v)] : values.second(v);
            return code.append(operation, first, second);
        }
    }
}
