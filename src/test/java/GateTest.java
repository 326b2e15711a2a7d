/** Promises 14 to 18: products, product, append, strip, value. */
public final class GateTest {
    private static final Due DUE = new Due();

    public static void main(String[] args) {
        rowsGrowAndAreStripped();
        rowsHoldEight();
        wrongArgumentsAreRefused();
        inputsHaveNoGate();
        valuesAreThoseOfTheDigits();
        gatesStandApart();
        DUE.end();
    }

    private static ClocklessGates signals(int outputs, int inputs) {
        ClocklessGates x = new ClocklessGates();
        for (int s = 0; s < outputs + inputs; s++) {
            x.signal(s >= outputs, false);
        }
        return x;
    }

    private static void rowsGrowAndAreStripped() {
        ClocklessGates x = signals(2, 0);
        DUE.answer("products(0) at first", 0, () -> x.products(0));
        DUE.answer("append(0, 8)", 0, () -> x.append(0, 8));
        DUE.answer("append(0, 0)", 1, () -> x.append(0, 0));
        DUE.answer("append(0, 8) again", 2, () -> x.append(0, 8));
        DUE.answer("products(0)", 3, () -> x.products(0));
        DUE.answer("product(0, 0)", 8, () -> x.product(0, 0));
        DUE.answer("product(0, 1)", 0, () -> x.product(0, 1));
        DUE.answer("product(0, 2)", 8, () -> x.product(0, 2));
        DUE.does("strip(0)", () -> x.strip(0));
        DUE.answer("products(0), stripped", 0, () -> x.products(0));
        DUE.refusal("product(0, 0), stripped", IndexOutOfBoundsException.class, () -> x.product(0, 0));
        DUE.answer("value(0, 0), stripped", 0, () -> x.value(0, 0));
        DUE.answer("append(0, 1), stripped", 0, () -> x.append(0, 1));
        DUE.does("strip(1) of an empty gate", () -> x.strip(1));
    }

    private static void rowsHoldEight() {
        ClocklessGates x = signals(1, 0);
        for (int k = 0; k < 8; k++) {
            int number = k % 3;
            DUE.answer("append " + k, k, () -> x.append(0, number));
        }
        DUE.refusal("append 8", IllegalStateException.class, () -> x.append(0, 0));
        DUE.refusal("append 8 of no number", IllegalArgumentException.class, () -> x.append(0, 3));
        DUE.refusal("append 8 to no signal", IndexOutOfBoundsException.class, () -> x.append(1, 0));
        DUE.answer("products of a full row", 8, () -> x.products(0));
        DUE.answer("product(0, 7)", 1, () -> x.product(0, 7));
        DUE.refusal("product(0, 8)", IndexOutOfBoundsException.class, () -> x.product(0, 8));
    }

    private static void wrongArgumentsAreRefused() {
        ClocklessGates x = signals(2, 1);
        for (int s : new int[] {-1, 3, 5, Integer.MIN_VALUE, Integer.MAX_VALUE}) {
            DUE.refusal("products(" + s + ")", IndexOutOfBoundsException.class, () -> x.products(s));
            DUE.refusal("product(" + s + ", 0)", IndexOutOfBoundsException.class, () -> x.product(s, 0));
            DUE.refusal("append(" + s + ", -1)", IndexOutOfBoundsException.class, () -> x.append(s, -1));
            DUE.refusal("strip(" + s + ")", IndexOutOfBoundsException.class, () -> x.strip(s));
            DUE.refusal("value(" + s + ", 0)", IndexOutOfBoundsException.class, () -> x.value(s, 0));
        }
        for (int number : new int[] {-1, 27, Integer.MIN_VALUE, Integer.MAX_VALUE}) {
            DUE.refusal("append(0, " + number + ")", IllegalArgumentException.class, () -> x.append(0, number));
        }
        for (int code : new int[] {-1, 8, 32, Integer.MIN_VALUE, Integer.MAX_VALUE}) {
            DUE.refusal("value(0, " + code + ")", IndexOutOfBoundsException.class, () -> x.value(0, code));
        }
        DUE.refusal("product(0, -1)", IndexOutOfBoundsException.class, () -> x.product(0, -1));
        DUE.answer("append(0, 26)", 0, () -> x.append(0, 26));
        DUE.answer("value(0, 7)", 1, () -> x.value(0, 7));
        ClocklessGates five = signals(5, 0);
        DUE.answer("append(4, 242)", 0, () -> five.append(4, 242));
        DUE.refusal("append(4, 243)", IllegalArgumentException.class, () -> five.append(4, 243));
        DUE.answer("value(4, 31)", 1, () -> five.value(4, 31));
        DUE.refusal("value(4, 32)", IndexOutOfBoundsException.class, () -> five.value(4, 32));
    }

    private static void inputsHaveNoGate() {
        ClocklessGates x = signals(1, 1);
        DUE.answer("products of an input", 0, () -> x.products(1));
        DUE.refusal("product of an input", IndexOutOfBoundsException.class, () -> x.product(1, 0));
        DUE.refusal("append to an input", IllegalArgumentException.class, () -> x.append(1, 0));
        DUE.does("strip of an input", () -> x.strip(1));
        DUE.answer("value of an input", 0, () -> x.value(1, 3));
    }

    /** Every product of every number of signals, at every code. */
    private static void valuesAreThoseOfTheDigits() {
        for (int n = 1; n <= 5; n++) {
            for (int number = 0; number < Math.pow(3, n); number++) {
                ClocklessGates x = signals(n, 0);
                x.append(0, number);
                for (int i = 0; i < 1 << n; i++) {
                    int code = i;
                    DUE.answer("product " + number + " of " + n + " at " + code, covered(number, code, n) ? 1 : 0,
                            () -> x.value(0, code));
                }
            }
        }
        ClocklessGates y = signals(2, 0);
        y.append(1, 0);
        y.append(1, 4);
        for (int i = 0; i < 4; i++) {
            int code = i;
            DUE.answer("two products at " + code, code == 0 || code == 3 ? 1 : 0, () -> y.value(1, code));
        }
    }

    private static boolean covered(int number, int code, int n) {
        int digits = number;
        for (int s = 0; s < n; s++) {
            if (digits % 3 != 2 && digits % 3 != (code >> s & 1)) {
                return false;
            }
            digits /= 3;
        }
        return true;
    }

    private static void gatesStandApart() {
        ClocklessGates x = signals(2, 0);
        x.append(0, 8);
        x.append(1, 0);
        DUE.answer("value(0, 3)", 1, () -> x.value(0, 3));
        DUE.answer("value(1, 3)", 0, () -> x.value(1, 3));
        x.strip(0);
        DUE.answer("products(1) behind strip(0)", 1, () -> x.products(1));
        ClocklessGates y = signals(2, 0);
        DUE.answer("products(1) of another object", 0, () -> y.products(1));
    }
}
