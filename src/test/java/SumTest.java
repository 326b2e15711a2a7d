/** Promise 13: synthesise gives each output its least sum. */
public final class SumTest {
    private static final Due DUE = new Due();

    public static void main(String[] args) {
        sumsOfKnownCircuits();
        constantsHaveTheirSums();
        productZeroCounts();
        outputsHaveSumsOfTheirOwn();
        fewestProductsComeBeforeFewestDigits();
        fewestDigitsComeBeforeLeastNumbers();
        leastNumbersAreToldByTheFirstPlace();
        eightProductsFitAndNineDoNot();
        synthesiseReplacesGates();
        refusedWithoutFine();
        DUE.end();
    }

    private static void gate(String net, ClocklessGates x, int s, int... numbers) {
        DUE.answer(net + ": products(" + s + ")", numbers.length, () -> x.products(s));
        for (int i = 0; i < numbers.length; i++) {
            int k = i;
            DUE.answer(net + ": product(" + s + ", " + k + ")", numbers[k], () -> x.product(s, k));
        }
    }

    private static void sumsOfKnownCircuits() {
        ClocklessGates x = Nets.follower();
        x.analyse();
        DUE.answer("follower: synthesise()", 1, x::synthesise);
        gate("follower", x, 0);
        gate("follower", x, 1, 7);
        ClocklessGates y = Nets.join();
        y.analyse();
        DUE.answer("join: synthesise()", 3, y::synthesise);
        gate("join", y, 2, 14, 16, 22);
    }

    private static void constantsHaveTheirSums() {
        ClocklessGates x = new ClocklessGates();
        x.signal(true, false);
        x.signal(false, true);
        x.signal(false, false);
        Nets.ring(x, 1, -1);
        x.analyse();
        DUE.answer("constants: synthesise()", 1, x::synthesise);
        gate("constants", x, 1, 26);
        gate("constants", x, 2);
        DUE.answer("constants: check()", 0, x::check);
    }

    /** An output alone that rises and falls: its next value is 1 in code 0 alone. */
    private static void productZeroCounts() {
        ClocklessGates x = Nets.signals(false);
        Nets.ring(x, 1, -1);
        x.analyse();
        DUE.answer("product 0: synthesise()", 1, x::synthesise);
        gate("product 0", x, 0, 0);
        DUE.answer("product 0: check()", 0, x::check);
    }

    /** Rings through inputs and outputs in turn; each output follows the signal before it. */
    private static void outputsHaveSumsOfTheirOwn() {
        ClocklessGates x = Nets.signals(false, true, false, false);
        Nets.ring(x, 2, 1, 3, 4, -2, -1, -3, -4);
        DUE.answer("a long ring: analyse()", 0, x::analyse);
        DUE.answer("a long ring: synthesise()", 3, x::synthesise);
        gate("a long ring", x, 0, 77);
        gate("a long ring", x, 1);
        gate("a long ring", x, 2, 79);
        gate("a long ring", x, 3, 71);
        DUE.answer("a long ring: check()", 0, x::check);
    }

    /**
     * A token walks through these codes. On are 2, 10, 18, 19, 23, 28, 29, 31: three products of eight digits
     * do, and so would four products of seven digits.
     */
    private static void fewestProductsComeBeforeFewestDigits() {
        int[] codes = {14, 6, 4, 10, 26, 2, 18, 19, 23, 31, 29, 28, 20};
        int[][] steps = {{0, 1}, {1, 2}, {0, 3}, {3, 4}, {1, 5}, {5, 6}, {6, 7}, {7, 8}, {8, 9}, {9, 10},
            {10, 11}, {11, 12}, {12, 2}, {4, 3}};
        ClocklessGates x = walk(codes, steps);
        DUE.answer("told by products: analyse()", 0, x::analyse);
        DUE.answer("told by products: states()", 13, x::states);
        DUE.answer("told by products: synthesise()", 3, x::synthesise);
        gate("told by products", x, 4, 62, 104, 125);
        DUE.answer("told by products: check()", 0, x::check);
    }

    /** Five signals, the last one an output; a place for each code, and a step from one to the other. */
    private static ClocklessGates walk(int[] codes, int[][] steps) {
        ClocklessGates x = new ClocklessGates();
        for (int s = 0; s < 5; s++) {
            x.signal(s < 4, (codes[0] >> s & 1) == 1);
        }
        for (int i = 0; i < codes.length; i++) {
            x.place(i == 0);
        }
        for (int[] step : steps) {
            int bit = codes[step[0]] ^ codes[step[1]];
            int t = x.edge(Integer.numberOfTrailingZeros(bit), (codes[step[1]] & bit) != 0);
            Nets.through(x, step[0], t, step[1]);
        }
        return x;
    }

    /**
     * On are 13, 15, 7, 6, off are 0, 8, 12: {0 high} is needed for 13, and for 6 either {1 high}, 77, or
     * {2 high, 3 low}, 17, which has the lesser number but more digits.
     */
    private static void fewestDigitsComeBeforeLeastNumbers() {
        ClocklessGates digits = chain(4, 1, 4, 3, 1, 2, -4, -1);
        DUE.answer("told by digits: synthesise()", 2, digits::synthesise);
        gate("told by digits", digits, 1, 77, 79);
    }

    private static void leastNumbersAreToldByTheFirstPlace() {
        // On are 2, 6, 7, 5, off is 0: {1 high} is needed for 2, and {0 high} or {2 high} for 5.
        ClocklessGates numbers = chain(3, 2, 2, 3, 1, -2);
        DUE.answer("told by numbers: synthesise()", 2, numbers::synthesise);
        gate("told by numbers", numbers, 2, 17, 23);
        // 51 and 59 would do as well: they are less in all, and at the last place.
        ClocklessGates first = chain(4, 3, 2, 4, -2, 3, 2, 1, -4);
        DUE.answer("told by the first place: synthesise()", 2, first::synthesise);
        gate("told by the first place", first, 3, 47, 75);
    }

    /** So many signals, all of them inputs but one, and a chain of edges; analysed. */
    private static ClocklessGates chain(int signals, int output, int... edges) {
        ClocklessGates x = new ClocklessGates();
        for (int s = 0; s < signals; s++) {
            x.signal(s != output, false);
        }
        Nets.chain(x, edges);
        DUE.answer("chain: analyse()", 0, x::analyse);
        return x;
    }

    private static void eightProductsFitAndNineDoNot() {
        ClocklessGates fits = Nets.parity(false);
        DUE.answer("parity: analyse()", 0, fits::analyse);
        DUE.answer("parity: states()", 32, fits::states);
        DUE.answer("parity: synthesise()", 8, fits::synthesise);
        // Digit 2 for the output, and an odd number of inputs high.
        gate("parity", fits, 4, 163, 165, 171, 175, 189, 193, 199, 201);
        DUE.answer("parity: check()", 0, fits::check);
        DUE.refusal("parity: a ninth product", IllegalStateException.class, () -> fits.append(4, 0));
        ClocklessGates exceeds = Nets.parity(true);
        DUE.answer("nine products: analyse()", 0, exceeds::analyse);
        DUE.answer("nine products: check()", 3, exceeds::check);
        exceeds.append(4, 5);
        exceeds.append(4, 3);
        DUE.refusal("nine products: synthesise()", UnsupportedOperationException.class, exceeds::synthesise);
        gate("nine products, unchanged", exceeds, 4, 5, 3);
        DUE.answer("nine products, unchanged: fault()", 1, exceeds::fault);
        DUE.answer("nine products, unchanged: states()", 32, exceeds::states);
    }

    private static void synthesiseReplacesGates() {
        ClocklessGates x = Nets.follower();
        x.analyse();
        x.append(1, 0);
        x.append(1, 8);
        DUE.answer("replaced: synthesise()", 1, x::synthesise);
        gate("replaced", x, 1, 7);
        x.append(1, 5);
        DUE.answer("replaced again: synthesise()", 1, x::synthesise);
        gate("replaced again", x, 1, 7);
        DUE.answer("replaced again: value(1, 2)", 0, () -> x.value(1, 2));
    }

    private static void refusedWithoutFine() {
        ClocklessGates x = Nets.follower();
        x.append(1, 4);
        DUE.refusal("no verdict: synthesise()", IllegalStateException.class, x::synthesise);
        gate("no verdict", x, 1, 4);
        ClocklessGates y = new ClocklessGates();
        y.signal(true, false);
        y.signal(false, false);
        Nets.ring(y, 1, -1, 2, -2);
        y.analyse();
        y.append(1, 4);
        DUE.refusal("conflict: synthesise()", IllegalStateException.class, y::synthesise);
        gate("conflict", y, 1, 4);
        DUE.answer("conflict: fault()", 2, y::fault);
    }
}
