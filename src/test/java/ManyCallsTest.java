/** 'What it is': an object answers rightly up to its 512th call, and minds only its own calls. */
public final class ManyCallsTest {
    private static final int CALLS = 512;
    private static final int P = 97;
    private static final Checks CHECKS = new Checks();

    private final SquareCode x = new SquareCode(P, 1);
    private final int other;
    private int calls = 0;
    private int input = 0;
    private int instructions = 0;

    private ManyCallsTest(int other) {
        this.other = other;
    }

    public static void main(String[] args) {
        allOfThem();
        twoInTurns();
        CHECKS.finish();
    }

    private void due(String what, int got, int want) {
        calls++;
        CHECKS.due("call " + calls + ", " + what, got, want);
    }

    /** The square of input 0, and input 1 less nought. */
    private void begin() {
        int[] words = {0, 802, 1, 300, 200, 400};
        for (int word : words) {
            due("feed", x.feed(word), 0);
        }
        instructions = words.length;
        due("setInput", x.setInput(1, 0, 0, other), 0);
        due("compile", x.compile(), 0);
    }

    /** Eight calls with a new input 0. */
    private void round() {
        input += 5;
        int want = (input * input + other) % P;
        due("setInput", x.setInput(0, 0, 0, input), 0);
        due("out", x.out(0, 0), -1);
        due("run", x.run(instructions - 1), 8);
        due("run", x.run(1), 0);
        due("out", x.out(0, 0), want);
        due("evalDirect", x.evalDirect(), 0);
        due("outDirect", x.outDirect(0, 0), want);
        due("codeSize", x.codeSize(), instructions);
    }

    /** Three calls that change the code. */
    private void change() {
        boolean isBetter = instructions == 4;
        due("change", isBetter ? x.compile() : x.optimise(), 0);
        instructions = isBetter ? 6 : 4;
        due("codeSize", x.codeSize(), instructions);
        due("products", x.products(), 1);
    }

    private boolean hasRoomFor(int more) {
        return calls + more <= CALLS;
    }

    /** "An object is used for at most 512 calls after it has been made" */
    private static void allOfThem() {
        ManyCallsTest one = new ManyCallsTest(40);
        one.begin();
        while (one.hasRoomFor(11)) {
            one.round();
            one.change();
        }
        while (one.hasRoomFor(1)) {
            one.due("feed", one.x.feed(0), 1);
        }
        CHECKS.due("calls", one.calls, CALLS);
    }

    private static void twoInTurns() {
        ManyCallsTest one = new ManyCallsTest(1);
        ManyCallsTest two = new ManyCallsTest(90);
        one.begin();
        two.begin();
        for (int k = 0; k < 20; k++) {
            one.round();
            one.change();
            two.round();
            one.round();
            two.round();
            two.change();
        }
    }
}
