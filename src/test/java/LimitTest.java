/** What just fits, and what is empty or full: each limit of the document has a test of its own. */
public final class LimitTest {
    private static final Due DUE = new Due();

    public static void main(String[] args) {
        emptyNetHasOneState();
        signalsAloneHaveOneState();
        transitionWithoutPlacesIsEnabled();
        transitionNeedsAllPlacesBeforeIt();
        fifthSignalIsLikeTheOthers();
        fourteenthTransitionIsLikeTheOthers();
        sixteenthPlaceIsLikeTheOthers();
        eightyStatesFit();
        eightyStatesFitWithWaysBack();
        eightyOneStatesDoNotFit();
        manyMoreStatesDoNotFit();
        tooBigDiscardsWhatWasThere();
        foundOfTheLastStateByTheLastTransition();
        stateZeroStaysNotFound();
        allOutputsMayBeExcited();
        inputsAreNeverExcited();
        emptyGateHasValueZero();
        outputWithoutOnCodesHasNoProduct();
        outputWithoutOffCodesHasOneProduct();
        netWithoutOutputsHasNoProducts();
        codeThirtyOneCounts();
        eightProductsFit();
        numbersEndWithTheSignalsThatThereAre();
        codesEndWithTheSignalsThatThereAre();
        fiveHundredAndTwelveCalls();
        DUE.end();
    }

    /** "No signals, no transitions, no places." */
    private static void emptyNetHasOneState() {
        ClocklessGates x = new ClocklessGates();
        DUE.answer("empty: fault()", -1, x::fault);
        DUE.answer("empty: analyse()", 0, x::analyse);
        DUE.answer("empty: fault() of it", -1, x::fault);
        DUE.answer("empty: states()", 1, x::states);
        DUE.answer("empty: code(0)", 0, () -> x.code(0));
        DUE.answer("empty: marking(0)", 0, () -> x.marking(0));
        DUE.answer("empty: found(0)", -1, () -> x.found(0));
        DUE.answer("empty: excited(0)", 0, () -> x.excited(0));
        DUE.answer("empty: synthesise()", 0, x::synthesise);
        DUE.answer("empty: check()", 0, x::check);
        DUE.answer("empty: fault() of the check", -1, x::fault);
        DUE.answer("empty: the first signal", 0, () -> x.signal(false, true));
        DUE.answer("empty: the first transition", 0, () -> x.edge(0, false));
        DUE.answer("empty: the first place", 0, () -> x.place(true));
    }

    private static void signalsAloneHaveOneState() {
        ClocklessGates x = new ClocklessGates();
        x.signal(true, true);
        x.signal(false, false);
        x.signal(false, true);
        DUE.answer("signals alone: analyse()", 0, x::analyse);
        DUE.answer("signals alone: states()", 1, x::states);
        DUE.answer("signals alone: code(0)", 5, () -> x.code(0));
        DUE.answer("signals alone: synthesise()", 1, x::synthesise);
        DUE.answer("signals alone: products(0)", 0, () -> x.products(0));
        DUE.answer("signals alone: products(1)", 0, () -> x.products(1));
        DUE.answer("signals alone: product(2, 0)", 26, () -> x.product(2, 0));
        DUE.answer("signals alone: check()", 0, x::check);
    }

    /** "A transition is ENABLED in a state when all places before it have a token": there may be none. */
    private static void transitionWithoutPlacesIsEnabled() {
        ClocklessGates x = Nets.signals(true, false);
        x.edge(1, true);
        DUE.answer("no places: analyse()", 2, x::analyse);
        DUE.answer("no places: fault()", 1, x::fault);
        DUE.answer("no places: states()", 2, x::states);
        DUE.answer("no places: code(1)", 2, () -> x.code(1));
        DUE.answer("no places: excited(0)", 2, () -> x.excited(0));
        DUE.answer("no places: excited(1)", 2, () -> x.excited(1));
        x.arc(x.place(false), 0, true);
        DUE.answer("a place behind: analyse()", 1, x::analyse);
        DUE.answer("a place behind: fault()", 1, x::fault);
        DUE.answer("a place behind: marking(1)", 1, () -> x.marking(1));
    }

    private static void transitionNeedsAllPlacesBeforeIt() {
        ClocklessGates x = Nets.signals(true);
        x.edge(0, true);
        for (int p = 0; p < 16; p++) {
            x.arc(x.place(p != 9), 0, false);
        }
        DUE.answer("15 of 16 tokens: analyse()", 0, x::analyse);
        DUE.answer("15 of 16 tokens: states()", 1, x::states);
        ClocklessGates y = Nets.signals(true);
        y.edge(0, true);
        for (int p = 0; p < 16; p++) {
            y.arc(y.place(true), 0, false);
        }
        DUE.answer("16 of 16 tokens: analyse()", 0, y::analyse);
        DUE.answer("16 of 16 tokens: states()", 2, y::states);
        DUE.answer("16 of 16 tokens: marking(0)", 65535, () -> y.marking(0));
        DUE.answer("16 of 16 tokens: marking(1)", 0, () -> y.marking(1));
    }

    /** "SIGNALS 0 .. (at most 5)" */
    private static void fifthSignalIsLikeTheOthers() {
        ClocklessGates x = Nets.signals(true, true, true, true);
        DUE.answer("the fifth signal", 4, () -> x.signal(false, true));
        Nets.ring(x, 1, -5, -1, 5);
        DUE.answer("five signals: analyse()", 0, x::analyse);
        DUE.answer("five signals: code(0)", 16, () -> x.code(0));
        DUE.answer("five signals: code(1)", 17, () -> x.code(1));
        DUE.answer("five signals: code(2)", 1, () -> x.code(2));
        DUE.answer("five signals: excited(1)", 16, () -> x.excited(1));
        DUE.answer("five signals: synthesise()", 1, x::synthesise);
        DUE.answer("five signals: product(4, 0)", 240, () -> x.product(4, 0));
        DUE.answer("five signals: value(4, 30)", 1, () -> x.value(4, 30));
        DUE.answer("five signals: value(4, 31)", 0, () -> x.value(4, 31));
    }

    /** "TRANSITIONS 0 .. (at most 14)" */
    private static void fourteenthTransitionIsLikeTheOthers() {
        ClocklessGates x = Nets.signals(true, false);
        int never = x.place(false);
        for (int t = 0; t < 13; t++) {
            x.arc(never, x.edge(0, true), false);
        }
        DUE.answer("the fourteenth transition", 13, () -> x.edge(1, true));
        Nets.through(x, x.place(true), 13, ClocklessGates.NONE);
        DUE.answer("14 transitions: analyse()", 0, x::analyse);
        DUE.answer("14 transitions: states()", 2, x::states);
        DUE.answer("14 transitions: found(1)", 13, () -> x.found(1));
        DUE.answer("14 transitions: code(1)", 2, () -> x.code(1));
        DUE.answer("14 transitions: excited(0)", 2, () -> x.excited(0));
        DUE.answer("14 transitions: check() without products", 3, x::check);
        DUE.answer("14 transitions: fault()", 0, x::fault);
    }

    /** "PLACES 0 .. (at most 16)" */
    private static void sixteenthPlaceIsLikeTheOthers() {
        ClocklessGates x = Nets.signals(true);
        x.edge(0, true);
        for (int p = 0; p < 15; p++) {
            x.place(false);
        }
        DUE.answer("the sixteenth place", 15, () -> x.place(true));
        x.arc(15, 0, false);
        x.arc(14, 0, true);
        DUE.answer("16 places: analyse()", 0, x::analyse);
        DUE.answer("16 places: marking(0)", 32768, () -> x.marking(0));
        DUE.answer("16 places: marking(1)", 16384, () -> x.marking(1));
        ClocklessGates y = Nets.signals(true);
        y.edge(0, true);
        for (int p = 0; p < 16; p++) {
            y.arc(y.place(false), 0, true);
        }
        DUE.answer("tokens on 16 places: analyse()", 1, y::analyse);
        DUE.answer("tokens on 16 places: marking(1)", 65535, () -> y.marking(1));
    }

    /** "There may be 80" */
    private static void eightyStatesFit() {
        ClocklessGates x = new ClocklessGates();
        Nets.chains(x, 4, 3, 3);
        DUE.answer("80 states: analyse()", 0, x::analyse);
        DUE.answer("80 states: states()", 80, x::states);
        DUE.answer("80 states: code(79)", 6, () -> x.code(79));
        DUE.answer("80 states: marking(79)", 0, () -> x.marking(79));
        DUE.answer("80 states: excited(79)", 0, () -> x.excited(79));
        DUE.answer("80 states: check()", 0, x::check);
    }

    private static void eightyStatesFitWithWaysBack() {
        ClocklessGates x = new ClocklessGates();
        Nets.chains(x, 4);
        for (int s = 1; s < 3; s++) {
            x.signal(true, false);
            Nets.ring(x, s + 1, -s - 1, s + 1, -s - 1);
        }
        DUE.answer("80 states and ways back: analyse()", 0, x::analyse);
        DUE.answer("80 states and ways back: states()", 80, x::states);
    }

    /** "when there are more there is no graph", and the FAULT is "-1 for 5 and 0" */
    private static void eightyOneStatesDoNotFit() {
        ClocklessGates x = new ClocklessGates();
        Nets.chains(x, 2, 2, 2, 2);
        DUE.answer("81 states: analyse()", 5, x::analyse);
        DUE.answer("81 states: fault()", -1, x::fault);
        DUE.refusal("81 states: states()", IllegalStateException.class, x::states);
        DUE.answer("81 states: analyse() again", 5, x::analyse);
        DUE.refusal("81 states: states() again", IllegalStateException.class, x::states);
    }

    private static void manyMoreStatesDoNotFit() {
        ClocklessGates x = new ClocklessGates();
        Nets.chains(x, 3, 3, 3, 3, 2);
        DUE.answer("768 states: analyse()", 5, x::analyse);
        DUE.answer("768 states: fault()", -1, x::fault);
        DUE.refusal("768 states: code(0)", IllegalStateException.class, () -> x.code(0));
    }

    private static void tooBigDiscardsWhatWasThere() {
        ClocklessGates x = Nets.follower();
        for (int s = 2; s < 4; s++) {
            x.signal(true, false);
            Nets.ring(x, s + 1, -s - 1, s + 1, -s - 1);
        }
        DUE.answer("64 states: analyse()", 0, x::analyse);
        DUE.answer("64 states: states()", 64, x::states);
        DUE.answer("64 states: check()", 3, x::check);
        DUE.answer("64 states: fault()", 1, x::fault);
        x.signal(true, false);
        Nets.ring(x, 5, -5);
        x.append(1, 100);
        DUE.answer("128 states: analyse()", 5, x::analyse);
        DUE.answer("128 states: products(1)", 0, () -> x.products(1));
        DUE.answer("128 states: fault()", -1, x::fault);
        DUE.refusal("128 states: states()", IllegalStateException.class, x::states);
        DUE.refusal("128 states: check()", IllegalStateException.class, x::check);
        DUE.answer("128 states: append(1, 242)", 0, () -> x.append(1, 242));
        DUE.answer("128 states: value(1, 31)", 1, () -> x.value(1, 31));
    }

    /** "100 * the state + the transition" */
    private static void foundOfTheLastStateByTheLastTransition() {
        ClocklessGates x = Nets.signals(true, true, true);
        int never = x.place(false);
        for (int t = 0; t < 4; t++) {
            x.arc(never, x.edge(0, true), false);
        }
        Nets.chain(x, 1, -1, 1, -1);
        Nets.chain(x, 2, -2, 2);
        Nets.chain(x, 3, -3, 3);
        DUE.answer("80 states: analyse()", 0, x::analyse);
        DUE.answer("80 states: states()", 80, x::states);
        DUE.answer("80 states: found(1)", 4, () -> x.found(1));
        DUE.answer("80 states: found(79)", 7613, () -> x.found(79));
    }

    /** "NONE for state 0", though a transition leads back to it */
    private static void stateZeroStaysNotFound() {
        ClocklessGates x = Nets.follower();
        x.analyse();
        DUE.answer("ring: states()", 4, x::states);
        DUE.answer("ring: found(0)", ClocklessGates.NONE, () -> x.found(0));
    }

    private static void allOutputsMayBeExcited() {
        ClocklessGates x = Nets.signals(false, false, false, false, false);
        for (int s = 0; s < 5; s++) {
            Nets.through(x, x.place(true), x.edge(s, true), ClocklessGates.NONE);
        }
        DUE.answer("five outputs: analyse()", 0, x::analyse);
        DUE.answer("five outputs: states()", 32, x::states);
        DUE.answer("five outputs: excited(0)", 31, () -> x.excited(0));
        DUE.answer("five outputs: excited(31)", 0, () -> x.excited(31));
        DUE.answer("five outputs: code(31)", 31, () -> x.code(31));
        DUE.answer("five outputs: synthesise()", 5, x::synthesise);
        DUE.answer("five outputs: product(4, 0)", 242, () -> x.product(4, 0));
        DUE.answer("five outputs: check()", 0, x::check);
    }

    private static void inputsAreNeverExcited() {
        ClocklessGates x = Nets.free(5);
        DUE.answer("five inputs: analyse()", 0, x::analyse);
        DUE.answer("five inputs: excited(0)", 0, () -> x.excited(0));
        DUE.answer("five inputs: excited(31)", 0, () -> x.excited(31));
    }

    /** "at first none. Its VALUE for a code is 1 if one of them covers it, else 0." */
    private static void emptyGateHasValueZero() {
        ClocklessGates x = Nets.signals(false, true);
        for (int i = 0; i < 4; i++) {
            int code = i;
            DUE.answer("empty gate: value(0, " + code + ")", 0, () -> x.value(0, code));
            DUE.answer("an input: value(1, " + code + ")", 0, () -> x.value(1, code));
        }
        DUE.answer("empty gate: products(0)", 0, () -> x.products(0));
        DUE.answer("an input: products(1)", 0, () -> x.products(1));
    }

    private static void outputWithoutOnCodesHasNoProduct() {
        ClocklessGates x = new ClocklessGates();
        x.signal(false, true);
        x.signal(false, false);
        Nets.through(x, x.place(true), x.edge(0, false), ClocklessGates.NONE);
        DUE.answer("no on codes: analyse()", 0, x::analyse);
        x.append(0, 0);
        x.append(1, 8);
        DUE.answer("no on codes: synthesise()", 0, x::synthesise);
        DUE.answer("no on codes: products(0)", 0, () -> x.products(0));
        DUE.answer("no on codes: products(1)", 0, () -> x.products(1));
        DUE.answer("no on codes: check()", 0, x::check);
    }

    private static void outputWithoutOffCodesHasOneProduct() {
        ClocklessGates x = new ClocklessGates();
        x.signal(false, true);
        x.signal(false, false);
        Nets.through(x, x.place(true), x.edge(1, true), ClocklessGates.NONE);
        DUE.answer("no off codes: analyse()", 0, x::analyse);
        DUE.answer("no off codes: synthesise()", 2, x::synthesise);
        DUE.answer("no off codes: product(0, 0)", 8, () -> x.product(0, 0));
        DUE.answer("no off codes: product(1, 0)", 8, () -> x.product(1, 0));
        DUE.answer("no off codes: check()", 0, x::check);
    }

    private static void netWithoutOutputsHasNoProducts() {
        ClocklessGates x = Nets.free(3);
        x.analyse();
        DUE.answer("no outputs: synthesise()", 0, x::synthesise);
        DUE.answer("no outputs: check()", 0, x::check);
        DUE.answer("no outputs: fault()", -1, x::fault);
    }

    /** Input 0 rises when all other signals are high, and output 4 falls behind it: 31 is the only off code. */
    private static void codeThirtyOneCounts() {
        ClocklessGates x = new ClocklessGates();
        for (int s = 0; s < 5; s++) {
            x.signal(s < 4, s > 0);
        }
        Nets.chain(x, 1, -5);
        DUE.answer("code 31: analyse()", 0, x::analyse);
        DUE.answer("code 31: code(1)", 31, () -> x.code(1));
        DUE.answer("code 31: synthesise()", 1, x::synthesise);
        DUE.answer("code 31: product(4, 0)", 240, () -> x.product(4, 0));
        DUE.answer("code 31: value(4, 31)", 0, () -> x.value(4, 31));
        DUE.answer("code 31: check()", 0, x::check);
        x.append(4, 121);
        DUE.answer("code 31 alone: value(4, 31)", 1, () -> x.value(4, 31));
        DUE.answer("code 31 alone: value(4, 15)", 0, () -> x.value(4, 15));
        DUE.answer("code 31 alone: check()", 3, x::check);
        DUE.answer("code 31 alone: fault()", 1, x::fault);
    }

    /** "a row of at most 8 products": appended, and as a least sum */
    private static void eightProductsFit() {
        ClocklessGates x = Nets.full();
        x.analyse();
        for (int k = 0; k < 8; k++) {
            int place = k;
            DUE.answer("append " + k, k, () -> x.append(4, 30 * place));
        }
        DUE.answer("eight: products(4)", 8, () -> x.products(4));
        DUE.answer("eight: product(4, 7)", 210, () -> x.product(4, 7));
        DUE.answer("eight: synthesise()", 8, x::synthesise);
        DUE.answer("eight: product(4, 7) of the sum", 201, () -> x.product(4, 7));
        x.strip(4);
        DUE.answer("eight, stripped: products(4)", 0, () -> x.products(4));
        DUE.answer("eight, stripped: append", 0, () -> x.append(4, 242));
    }

    /** "number is not 0 .. 3^n - 1, n being how many signals there are" */
    private static void numbersEndWithTheSignalsThatThereAre() {
        ClocklessGates x = new ClocklessGates();
        int beyond = 1;
        for (int n = 1; n <= 5; n++) {
            x.signal(false, false);
            beyond *= 3;
            int limit = beyond;
            DUE.answer(n + " signals: append(0, 0)", 0, () -> x.append(0, 0));
            DUE.answer(n + " signals: append(0, " + (limit - 1) + ")", 1, () -> x.append(0, limit - 1));
            DUE.refusal(n + " signals: append(0, " + limit + ")", IllegalArgumentException.class,
                    () -> x.append(0, limit));
            DUE.refusal(n + " signals: append(0, -1)", IllegalArgumentException.class, () -> x.append(0, -1));
            DUE.answer(n + " signals: products(0)", 2, () -> x.products(0));
        }
    }

    /** "code is not 0 .. 2^n - 1" */
    private static void codesEndWithTheSignalsThatThereAre() {
        ClocklessGates x = new ClocklessGates();
        int beyond = 1;
        int any = 0;
        for (int n = 1; n <= 5; n++) {
            x.signal(false, false);
            beyond *= 2;
            any = 3 * any + 2;
            int limit = beyond;
            x.append(0, any);
            DUE.answer(n + " signals: value(0, 0)", 1, () -> x.value(0, 0));
            DUE.answer(n + " signals: value(0, " + (limit - 1) + ")", 1, () -> x.value(0, limit - 1));
            DUE.refusal(n + " signals: value(0, " + limit + ")", IndexOutOfBoundsException.class,
                    () -> x.value(0, limit));
            DUE.refusal(n + " signals: value(0, -1)", IndexOutOfBoundsException.class, () -> x.value(0, -1));
        }
    }

    /** "An object is used for at most 512 calls": the last one of them answers as the others. */
    private static void fiveHundredAndTwelveCalls() {
        ClocklessGates x = Nets.follower();
        int calls = 2 + 4 + 4 + 8;
        for (; calls < 507; calls++) {
            x.analyse();
        }
        x.synthesise();
        x.strip(1);
        x.append(1, 8);
        DUE.answer("call 511: check()", 2, x::check);
        DUE.answer("call 512: fault()", 0, x::fault);
    }
}
