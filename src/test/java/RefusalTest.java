import java.util.function.Supplier;

/**
 * Every call that throws, promise by promise: which exception, the one named first where several fit, and
 * that nothing is changed by it.
 */
public final class RefusalTest {
    private static final Class<IndexOutOfBoundsException> INDEX = IndexOutOfBoundsException.class;
    private static final Class<IllegalStateException> STATE = IllegalStateException.class;
    private static final Class<IllegalArgumentException> ARGUMENT = IllegalArgumentException.class;
    private static final Class<UnsupportedOperationException> UNSUPPORTED = UnsupportedOperationException.class;
    private static final int LEAST = Integer.MIN_VALUE;
    private static final int MOST = Integer.MAX_VALUE;
    private static final Due DUE = new Due();

    private static final Twins EMPTY = new Twins(DUE, ClocklessGates::new);
    private static final Twins BUSY = new Twins(DUE, Nets::busy);
    private static final Twins FULL = new Twins(DUE, Nets::fullAndBusy);

    public static void main(String[] args) {
        promise2SignalWhenThereAreFive();
        promise3EdgeOfNoSuchSignal();
        promise3EdgeWhenThereAreFourteen();
        promise3EdgeOfNoSuchSignalIsNamedFirst();
        promise4PlaceWhenThereAreSixteen();
        promise5ArcOfNoSuchPlace();
        promise5ArcOfNoSuchTransition();
        promise5ArcThatIsThereAlready();
        promise7StatesWithoutGraph();
        promises8To11StateWithoutGraph();
        promises8To11NoSuchState();
        promise13SynthesiseWithoutFine();
        promise13SynthesiseOfMoreThanEightProducts();
        promise14ProductsOfNoSuchSignal();
        promise15ProductOfNoSuchSignal();
        promise15NoSuchProduct();
        promise16AppendToNoSuchSignal();
        promise16AppendToAnInput();
        promise16AppendOfNoSuchNumber();
        promise16AppendWhenThereAreEight();
        promise16AppendOrder();
        promise17StripOfNoSuchSignal();
        promise18ValueOfNoSuchSignal();
        promise18ValueOfNoSuchCode();
        promise19CheckWithoutFine();
        DUE.end();
    }

    /** A busy follower that was given a place more. */
    private static ClocklessGates added() {
        ClocklessGates x = Nets.busy();
        x.place(false);
        x.append(1, 5);
        return x;
    }

    /** A net of this verdict, analysed, with a gate of one product where there is an output. */
    private static Supplier<ClocklessGates> judged(int verdict) {
        return () -> {
            ClocklessGates x = Nets.withVerdict(verdict);
            x.analyse();
            x.append(verdict == 5 ? 4 : 1, 5);
            return x;
        };
    }

    /** Never analysed, but with a product. */
    private static ClocklessGates fresh() {
        ClocklessGates x = Nets.follower();
        x.append(1, 5);
        return x;
    }

    private static void promise2SignalWhenThereAreFive() {
        FULL.refuse("a sixth signal", STATE, x -> x.signal(true, true));
        FULL.refuse("a sixth signal, an output", STATE, x -> x.signal(false, false));
    }

    private static void promise3EdgeOfNoSuchSignal() {
        for (int s : new int[] {LEAST, -1, 2, 5, MOST}) {
            BUSY.refuse("edge(" + s + ")", INDEX, x -> x.edge(s, true));
        }
        EMPTY.refuse("edge(0) of an empty net", INDEX, x -> x.edge(0, true));
    }

    private static void promise3EdgeWhenThereAreFourteen() {
        FULL.refuse("a fifteenth edge, rising", STATE, x -> x.edge(0, true));
        FULL.refuse("a fifteenth edge, falling", STATE, x -> x.edge(4, false));
    }

    private static void promise3EdgeOfNoSuchSignalIsNamedFirst() {
        FULL.refuse("a fifteenth edge, of signal 5", INDEX, x -> x.edge(5, true));
        FULL.refuse("a fifteenth edge, of signal -1", INDEX, x -> x.edge(-1, true));
    }

    private static void promise4PlaceWhenThereAreSixteen() {
        FULL.refuse("a seventeenth place with a token", STATE, x -> x.place(true));
        FULL.refuse("a seventeenth place", STATE, x -> x.place(false));
    }

    private static void promise5ArcOfNoSuchPlace() {
        for (int p : new int[] {LEAST, -1, 4, 16, MOST}) {
            BUSY.refuse("arc(" + p + ", 0) before", INDEX, x -> x.arc(p, 0, false));
            BUSY.refuse("arc(" + p + ", 3) behind", INDEX, x -> x.arc(p, 3, true));
        }
        FULL.refuse("arc(16, 0)", INDEX, x -> x.arc(16, 0, true));
        EMPTY.refuse("arc(0, 0) of an empty net", INDEX, x -> x.arc(0, 0, true));
    }

    private static void promise5ArcOfNoSuchTransition() {
        for (int t : new int[] {LEAST, -1, 4, 14, MOST}) {
            BUSY.refuse("arc(0, " + t + ") before", INDEX, x -> x.arc(0, t, false));
            BUSY.refuse("arc(3, " + t + ") behind", INDEX, x -> x.arc(3, t, true));
        }
        FULL.refuse("arc(0, 14)", INDEX, x -> x.arc(0, 14, true));
        BUSY.refuse("arc(-1, -1)", INDEX, x -> x.arc(-1, -1, true));
        BUSY.refuse("arc(4, 4)", INDEX, x -> x.arc(4, 4, false));
    }

    private static void promise5ArcThatIsThereAlready() {
        BUSY.refuse("arc(0, 0) before, again", ARGUMENT, x -> x.arc(0, 0, false));
        BUSY.refuse("arc(1, 0) behind, again", ARGUMENT, x -> x.arc(1, 0, true));
        BUSY.refuse("arc(0, 3) behind, again", ARGUMENT, x -> x.arc(0, 3, true));
        FULL.refuse("arc(15, 13) before, again", ARGUMENT, x -> x.arc(15, 13, false));
    }

    private static void promise7StatesWithoutGraph() {
        EMPTY.refuse("new: states()", STATE, ClocklessGates::states);
        new Twins(DUE, RefusalTest::fresh).refuse("never analysed: states()", STATE, ClocklessGates::states);
        new Twins(DUE, RefusalTest::added).refuse("a place more: states()", STATE, ClocklessGates::states);
        new Twins(DUE, judged(5)).refuse("too big: states()", STATE, ClocklessGates::states);
    }

    private static void refuseState(String net, Twins twins, Class<? extends RuntimeException> want, int k) {
        twins.refuse(net + "code(" + k + ")", want, x -> x.code(k));
        twins.refuse(net + "marking(" + k + ")", want, x -> x.marking(k));
        twins.refuse(net + "found(" + k + ")", want, x -> x.found(k));
        twins.refuse(net + "excited(" + k + ")", want, x -> x.excited(k));
    }

    /** No graph is named before no such state, so it is that for a k that no graph has, too. */
    private static void promises8To11StateWithoutGraph() {
        for (int k : new int[] {LEAST, -1, 0, 1, 80, MOST}) {
            refuseState("new: ", EMPTY, STATE, k);
            refuseState("never analysed: ", new Twins(DUE, RefusalTest::fresh), STATE, k);
            refuseState("a place more: ", new Twins(DUE, RefusalTest::added), STATE, k);
            refuseState("too big: ", new Twins(DUE, judged(5)), STATE, k);
        }
    }

    private static void promises8To11NoSuchState() {
        for (int k : new int[] {LEAST, -1, 4, 79, 80, MOST}) {
            refuseState("4 states: ", BUSY, INDEX, k);
        }
        for (int k : new int[] {-1, 32}) {
            refuseState("32 states: ", FULL, INDEX, k);
        }
        refuseState("80 states: ", new Twins(DUE, RefusalTest::eighty), INDEX, 80);
        refuseState("1 state: ", new Twins(DUE, RefusalTest::emptyAnalysed), INDEX, 1);
    }

    private static ClocklessGates eighty() {
        ClocklessGates x = new ClocklessGates();
        Nets.chains(x, 4, 3, 3);
        x.analyse();
        return x;
    }

    private static ClocklessGates emptyAnalysed() {
        ClocklessGates x = new ClocklessGates();
        x.analyse();
        return x;
    }

    private static void promise13SynthesiseWithoutFine() {
        EMPTY.refuse("new: synthesise()", STATE, ClocklessGates::synthesise);
        new Twins(DUE, RefusalTest::fresh).refuse("never analysed: synthesise()", STATE, ClocklessGates::synthesise);
        new Twins(DUE, RefusalTest::added).refuse("a place more: synthesise()", STATE, ClocklessGates::synthesise);
        for (int verdict = 1; verdict <= 5; verdict++) {
            new Twins(DUE, judged(verdict)).refuse("verdict " + verdict + ": synthesise()", STATE,
                    ClocklessGates::synthesise);
        }
    }

    /** Gates of output 4 whose least sum has nine products. */
    private static ClocklessGates nineProducts() {
        ClocklessGates x = Nets.parity(true);
        x.analyse();
        x.append(4, 5);
        x.append(4, 3);
        x.check();
        return x;
    }

    /** The same, but a sum of eight products was given to the output before the net had its stop. */
    private static ClocklessGates nineProductsBehindEight() {
        ClocklessGates x = Nets.parity(false);
        x.analyse();
        x.synthesise();
        Nets.addStop(x);
        x.analyse();
        x.append(4, 5);
        return x;
    }

    /** The sum of output 0 fits, and is found before that of output 4, which does not. */
    private static ClocklessGates twoAndNineProducts() {
        ClocklessGates x = Nets.shortAndLongSum();
        x.analyse();
        x.append(0, 241);
        x.append(4, 5);
        x.check();
        return x;
    }

    private static void promise13SynthesiseOfMoreThanEightProducts() {
        new Twins(DUE, RefusalTest::nineProducts).refuse("nine products: synthesise()", UNSUPPORTED,
                ClocklessGates::synthesise);
        new Twins(DUE, RefusalTest::nineProductsBehindEight).refuse("nine products behind eight: synthesise()",
                UNSUPPORTED, ClocklessGates::synthesise);
        new Twins(DUE, RefusalTest::twoAndNineProducts).refuse("two and nine products: synthesise()", UNSUPPORTED,
                ClocklessGates::synthesise);
    }

    private static void promise14ProductsOfNoSuchSignal() {
        for (int s : new int[] {LEAST, -1, 2, 5, MOST}) {
            BUSY.refuse("products(" + s + ")", INDEX, x -> x.products(s));
        }
        FULL.refuse("products(5) of five", INDEX, x -> x.products(5));
        EMPTY.refuse("products(0) of an empty net", INDEX, x -> x.products(0));
    }

    private static void promise15ProductOfNoSuchSignal() {
        for (int s : new int[] {LEAST, -1, 2, 5, MOST}) {
            BUSY.refuse("product(" + s + ", 0)", INDEX, x -> x.product(s, 0));
        }
        FULL.refuse("product(5, 0) of five", INDEX, x -> x.product(5, 0));
        EMPTY.refuse("product(0, 0) of an empty net", INDEX, x -> x.product(0, 0));
    }

    private static void promise15NoSuchProduct() {
        for (int k : new int[] {LEAST, -1, 2, 8, MOST}) {
            BUSY.refuse("product(1, " + k + ") of two", INDEX, x -> x.product(1, k));
            FULL.refuse("product(4, " + (k == 2 ? 9 : k) + ") of eight", INDEX, x -> x.product(4, k == 2 ? 9 : k));
        }
        BUSY.refuse("product(0, 0) of an input", INDEX, x -> x.product(0, 0));
        new Twins(DUE, Nets::follower).refuse("product(1, 0) of an empty gate", INDEX, x -> x.product(1, 0));
    }

    private static void promise16AppendToNoSuchSignal() {
        for (int s : new int[] {LEAST, -1, 2, 5, MOST}) {
            BUSY.refuse("append(" + s + ", 0)", INDEX, x -> x.append(s, 0));
        }
        EMPTY.refuse("append(0, 0) of an empty net", INDEX, x -> x.append(0, 0));
    }

    private static void promise16AppendToAnInput() {
        BUSY.refuse("append(0, 0) to an input", ARGUMENT, x -> x.append(0, 0));
        BUSY.refuse("append(0, 9) to an input, and no number", ARGUMENT, x -> x.append(0, 9));
        FULL.refuse("append(3, 0) to an input", ARGUMENT, x -> x.append(3, 0));
    }

    private static void promise16AppendOfNoSuchNumber() {
        for (int number : new int[] {LEAST, -1, 9, 243, MOST}) {
            BUSY.refuse("append(1, " + number + ") of two signals", ARGUMENT, x -> x.append(1, number));
        }
    }

    private static void promise16AppendWhenThereAreEight() {
        FULL.refuse("append(4, 0), the ninth", STATE, x -> x.append(4, 0));
        FULL.refuse("append(4, 242), the ninth", STATE, x -> x.append(4, 242));
    }

    private static void promise16AppendOrder() {
        FULL.refuse("append(4, 243), the ninth", ARGUMENT, x -> x.append(4, 243));
        FULL.refuse("append(4, -1), the ninth", ARGUMENT, x -> x.append(4, -1));
        FULL.refuse("append(5, 243)", INDEX, x -> x.append(5, 243));
        FULL.refuse("append(-1, -1)", INDEX, x -> x.append(-1, -1));
    }

    private static void promise17StripOfNoSuchSignal() {
        for (int s : new int[] {LEAST, -1, 2, 5, MOST}) {
            BUSY.refuse("strip(" + s + ")", INDEX, x -> x.strip(s));
        }
        FULL.refuse("strip(5) of five", INDEX, x -> x.strip(5));
        EMPTY.refuse("strip(0) of an empty net", INDEX, x -> x.strip(0));
    }

    private static void promise18ValueOfNoSuchSignal() {
        for (int s : new int[] {LEAST, -1, 2, 5, MOST}) {
            BUSY.refuse("value(" + s + ", 0)", INDEX, x -> x.value(s, 0));
        }
        FULL.refuse("value(5, 0) of five", INDEX, x -> x.value(5, 0));
        EMPTY.refuse("value(0, 0) of an empty net", INDEX, x -> x.value(0, 0));
    }

    private static void promise18ValueOfNoSuchCode() {
        for (int code : new int[] {LEAST, -1, 4, 32, MOST}) {
            BUSY.refuse("value(1, " + code + ") of two signals", INDEX, x -> x.value(1, code));
            BUSY.refuse("value(0, " + code + ") of an input", INDEX, x -> x.value(0, code));
        }
        FULL.refuse("value(4, 32) of five signals", INDEX, x -> x.value(4, 32));
        FULL.refuse("value(4, -1) of five signals", INDEX, x -> x.value(4, -1));
    }

    private static void promise19CheckWithoutFine() {
        EMPTY.refuse("new: check()", STATE, ClocklessGates::check);
        new Twins(DUE, RefusalTest::fresh).refuse("never analysed: check()", STATE, ClocklessGates::check);
        new Twins(DUE, RefusalTest::added).refuse("a place more: check()", STATE, ClocklessGates::check);
        for (int verdict = 1; verdict <= 5; verdict++) {
            new Twins(DUE, judged(verdict)).refuse("verdict " + verdict + ": check()", STATE, ClocklessGates::check);
        }
    }
}
