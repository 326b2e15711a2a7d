import java.util.function.Consumer;

/** What each call changes and what it keeps, the graph, the verdict, the gates and the fault among it. */
public final class EffectTest {
    private static final Class<IllegalStateException> STATE = IllegalStateException.class;
    private static final Due DUE = new Due();

    private static final Twins EMPTY = new Twins(DUE, ClocklessGates::new);
    private static final Twins BUSY = new Twins(DUE, Nets::busy);
    private static final Twins FULL = new Twins(DUE, Nets::fullAndBusy);

    public static void main(String[] args) {
        questionsChangeNothing();
        objectsAreApart();
        signalDiscardsAll();
        edgeDiscardsAll();
        placeDiscardsAll();
        arcBeforeDiscardsAll();
        arcBehindDiscardsAll();
        addingDiscardsTheFaultOfEachVerdict();
        analyseDiscardsGatesAndNothingElse();
        analyseSeesWhatWasAdded();
        analyseMakesTheGraphNew();
        tooBigIsNotForEver();
        synthesiseReplacesGatesAndNothingElse();
        appendAddsAProductAndNothingElse();
        appendNeedsNoGraphAndNoVerdict();
        stripTakesProductsAndNothingElse();
        stripOfAnEmptyGateChangesNothing();
        stripOfAnInputChangesNothing();
        checkSetsTheFaultAndNothingElse();
        faultIsOfTheLatestOfBoth();
        DUE.end();
    }

    private static void questionsChangeNothing() {
        for (Twins twins : new Twins[] {BUSY, FULL}) {
            twins.keepAll("states()", ClocklessGates::states);
            twins.keepAll("code(1)", x -> x.code(1));
            twins.keepAll("marking(2)", x -> x.marking(2));
            twins.keepAll("found(3)", x -> x.found(3));
            twins.keepAll("excited(0)", x -> x.excited(0));
            twins.keepAll("fault()", ClocklessGates::fault);
            twins.keepAll("products(1)", x -> x.products(1));
            twins.keepAll("value(1, 2)", x -> x.value(1, 2));
        }
        BUSY.keepAll("product(1, 1)", x -> x.product(1, 1));
        FULL.keepAll("product(4, 7)", x -> x.product(4, 7));
        EMPTY.keepAll("fault() of an empty net", ClocklessGates::fault);
    }

    private static void objectsAreApart() {
        BUSY.keepAll("another object", x -> {
            ClocklessGates other = Nets.fullAndBusy();
            other.synthesise();
            other.check();
        });
    }

    /** "To add anything (but products) discards the graph, the verdict and all gates." */
    private static void discardsAll(String added, Consumer<ClocklessGates> add) {
        ClocklessGates x = Nets.busy();
        DUE.answer("busy: fault()", 0, x::fault);
        add.accept(x);
        DUE.refusal(added + ": states()", STATE, x::states);
        DUE.refusal(added + ": code(0)", STATE, () -> x.code(0));
        DUE.refusal(added + ": marking(0)", STATE, () -> x.marking(0));
        DUE.refusal(added + ": found(0)", STATE, () -> x.found(0));
        DUE.refusal(added + ": excited(0)", STATE, () -> x.excited(0));
        DUE.answer(added + ": fault()", -1, x::fault);
        DUE.answer(added + ": products(1)", 0, () -> x.products(1));
        DUE.refusal(added + ": product(1, 0)", IndexOutOfBoundsException.class, () -> x.product(1, 0));
        for (int i = 0; i < 4; i++) {
            int code = i;
            DUE.answer(added + ": value(1, " + code + ")", 0, () -> x.value(1, code));
        }
        DUE.refusal(added + ": synthesise()", STATE, x::synthesise);
        DUE.refusal(added + ": check()", STATE, x::check);
        DUE.answer(added + ": append(1, 8)", 0, () -> x.append(1, 8));
        DUE.refusal(added + ", a product more: check()", STATE, x::check);
        DUE.refusal(added + ", a product more: synthesise()", STATE, x::synthesise);
        DUE.answer(added + ", a product more: fault()", -1, x::fault);
        x.analyse();
        DUE.answer(added + ", analysed: products(1)", 0, () -> x.products(1));
    }

    private static void signalDiscardsAll() {
        discardsAll("an input more", x -> x.signal(true, false));
        discardsAll("an output more", x -> x.signal(false, true));
    }

    private static void edgeDiscardsAll() {
        discardsAll("a rising edge more", x -> x.edge(0, true));
        discardsAll("a falling edge more", x -> x.edge(1, false));
    }

    private static void placeDiscardsAll() {
        discardsAll("a place more", x -> x.place(false));
        discardsAll("a token more", x -> x.place(true));
    }

    private static void arcBeforeDiscardsAll() {
        discardsAll("an arc before more", x -> x.arc(3, 0, false));
    }

    private static void arcBehindDiscardsAll() {
        discardsAll("an arc behind more", x -> x.arc(0, 0, true));
    }

    /** "NONE when there was none since anything was added" */
    private static void addingDiscardsTheFaultOfEachVerdict() {
        int[] faults = {-1, 0, 0, 0, 2, -1};
        for (int verdict = 0; verdict <= 5; verdict++) {
            ClocklessGates x = Nets.withVerdict(verdict);
            String net = "verdict " + verdict;
            DUE.answer(net + ": fault() at first", -1, x::fault);
            DUE.answer(net + ": analyse()", verdict, x::analyse);
            DUE.answer(net + ": fault()", faults[verdict], x::fault);
            x.place(false);
            DUE.answer(net + ": fault() behind a place", -1, x::fault);
            DUE.refusal(net + ": synthesise() behind a place", STATE, x::synthesise);
            DUE.answer(net + ": analyse() again", verdict, x::analyse);
            DUE.answer(net + ": fault() again", faults[verdict], x::fault);
        }
    }

    /** "Makes the graph and discards all gates" */
    private static void analyseDiscardsGatesAndNothingElse() {
        BUSY.keepGraph("analyse()", ClocklessGates::analyse);
        FULL.keepGraph("analyse()", ClocklessGates::analyse);
        for (int verdict = 0; verdict <= 5; verdict++) {
            int output = verdict == 5 ? 4 : 1;
            ClocklessGates x = Nets.withVerdict(verdict);
            x.append(output, 8);
            DUE.answer("verdict " + verdict + ": analyse()", verdict, x::analyse);
            DUE.answer("verdict " + verdict + ": products", 0, () -> x.products(output));
            DUE.answer("verdict " + verdict + ": value", 0, () -> x.value(output, 0));
            x.append(output, 8);
            DUE.answer("verdict " + verdict + ": products behind append", 1, () -> x.products(output));
            x.analyse();
            DUE.answer("verdict " + verdict + ": products behind analyse again", 0, () -> x.products(output));
        }
        ClocklessGates x = Nets.busy();
        x.analyse();
        DUE.answer("analyse() behind a check: fault()", -1, x::fault);
        DUE.answer("analyse() behind a check: check()", 3, x::check);
    }

    private static void analyseSeesWhatWasAdded() {
        ClocklessGates x = Nets.signals(true, false);
        DUE.answer("two signals: analyse()", 0, x::analyse);
        DUE.answer("two signals: states()", 1, x::states);
        x.edge(0, true);
        x.place(true);
        x.arc(0, 0, false);
        DUE.answer("an edge: analyse()", 0, x::analyse);
        DUE.answer("an edge: states()", 2, x::states);
        x.edge(0, true);
        x.place(false);
        x.arc(1, 0, true);
        x.arc(1, 1, false);
        DUE.answer("up twice: analyse()", 2, x::analyse);
        DUE.answer("up twice: fault()", 1, x::fault);
        x.arc(x.place(false), 1, false);
        DUE.answer("the second one is stopped: analyse()", 0, x::analyse);
        DUE.answer("the second one is stopped: fault()", -1, x::fault);
        DUE.answer("the second one is stopped: states()", 2, x::states);
        DUE.answer("the second one is stopped: synthesise()", 0, x::synthesise);
    }

    /** An arc more may leave fewer states and fewer edges enabled; nothing of the graph before may be seen. */
    private static void analyseMakesTheGraphNew() {
        for (int i = 0; i < 6 * 10; i++) {
            int t = i % 6;
            int p = i / 6;
            Consumer<ClocklessGates> add = x -> x.arc(p < 8 ? p : x.place(p == 9), t, false);
            ClocklessGates before = Nets.join();
            boolean there = Due.outcomeOf(Due.asSupplier(() -> add.accept(before))).startsWith("Illegal");
            if (!there) {
                new Twins(DUE, Nets::join).compare("an arc from " + p + " to " + t, ClocklessGates::analyse, x -> {
                    add.accept(x);
                    return Twins.analyse(x);
                });
            }
        }
    }

    private static void tooBigIsNotForEver() {
        ClocklessGates x = Nets.withVerdict(5);
        DUE.answer("too big: analyse()", 5, x::analyse);
        x.arc(x.place(false), 0, false);
        DUE.answer("input 0 is stopped: analyse()", 0, x::analyse);
        DUE.answer("input 0 is stopped: states()", 27, x::states);
        DUE.answer("input 0 is stopped: synthesise()", 0, x::synthesise);
        DUE.answer("input 0 is stopped: check()", 0, x::check);
    }

    private static void synthesiseReplacesGatesAndNothingElse() {
        for (Twins twins : new Twins[] {BUSY, FULL}) {
            twins.keepGraph("synthesise()", ClocklessGates::synthesise);
            twins.compare("synthesise(), then fault", ClocklessGates::synthesise, Twins::fault);
            twins.compare("synthesise(), then synthesise", ClocklessGates::synthesise, Twins::synthesise);
        }
        ClocklessGates x = Nets.busy();
        DUE.answer("synthesise()", 1, x::synthesise);
        DUE.answer("synthesise(): products(1)", 1, () -> x.products(1));
        DUE.answer("synthesise(): value(1, 2)", 0, () -> x.value(1, 2));
        DUE.answer("synthesise(): check()", 0, x::check);
    }

    private static void appendAddsAProductAndNothingElse() {
        BUSY.keepGraph("append(1, 5)", x -> x.append(1, 5));
        BUSY.compare("append(1, 5), then fault", x -> x.append(1, 5), Twins::fault);
        BUSY.compare("append(1, 5), then synthesise", x -> x.append(1, 5), Twins::synthesise);
        ClocklessGates x = Nets.busy();
        DUE.answer("append(1, 8), which is there already", 2, () -> x.append(1, 8));
        DUE.answer("append: product(1, 0)", 7, () -> x.product(1, 0));
        DUE.answer("append: product(1, 1)", 8, () -> x.product(1, 1));
        DUE.answer("append: product(1, 2)", 8, () -> x.product(1, 2));
        DUE.answer("append: check()", 2, x::check);
    }

    private static void appendNeedsNoGraphAndNoVerdict() {
        ClocklessGates x = Nets.signals(false);
        DUE.answer("no graph: append(0, 2)", 0, () -> x.append(0, 2));
        DUE.answer("no graph: products(0)", 1, () -> x.products(0));
        DUE.answer("no graph: product(0, 0)", 2, () -> x.product(0, 0));
        DUE.answer("no graph: value(0, 1)", 1, () -> x.value(0, 1));
        DUE.does("no graph: strip(0)", () -> x.strip(0));
        DUE.answer("no graph: value(0, 1), stripped", 0, () -> x.value(0, 1));
        DUE.refusal("no graph: states()", STATE, x::states);
    }

    private static void stripTakesProductsAndNothingElse() {
        BUSY.keepGraph("strip(1)", x -> x.strip(1));
        BUSY.compare("strip(1), then fault", x -> x.strip(1), Twins::fault);
        BUSY.compare("strip(1), then synthesise", x -> x.strip(1), Twins::synthesise);
        ClocklessGates x = Nets.signals(false, false, false);
        for (int s = 0; s < 3; s++) {
            x.append(s, 26);
            x.append(s, s);
        }
        x.strip(1);
        for (int i = 0; i < 3; i++) {
            int s = i;
            DUE.answer("strip(1): products(" + s + ")", s == 1 ? 0 : 2, () -> x.products(s));
            DUE.answer("strip(1): value(" + s + ", 7)", s == 1 ? 0 : 1, () -> x.value(s, 7));
        }
    }

    private static void stripOfAnEmptyGateChangesNothing() {
        new Twins(DUE, EffectTest::emptyGate).keepAll("strip(1) of an empty gate", x -> x.strip(1));
    }

    private static ClocklessGates emptyGate() {
        ClocklessGates x = Nets.follower();
        x.analyse();
        x.check();
        return x;
    }

    private static void stripOfAnInputChangesNothing() {
        BUSY.keepAll("strip(0), an input", x -> x.strip(0));
        FULL.keepAll("strip(3), an input", x -> x.strip(3));
    }

    private static void checkSetsTheFaultAndNothingElse() {
        for (Twins twins : new Twins[] {BUSY, FULL, new Twins(DUE, EffectTest::emptyGate)}) {
            twins.keepAll("check()", ClocklessGates::check);
        }
    }

    /** "The fault of the latest analyse or check" */
    private static void faultIsOfTheLatestOfBoth() {
        ClocklessGates x = Nets.follower();
        x.analyse();
        DUE.answer("analyse(): fault()", -1, x::fault);
        DUE.answer("check()", 3, x::check);
        DUE.answer("check(): fault()", 1, x::fault);
        x.append(1, 8);
        DUE.answer("append(): fault()", 1, x::fault);
        DUE.answer("check() again", 2, x::check);
        DUE.answer("check() again: fault()", 0, x::fault);
        x.strip(1);
        DUE.answer("strip(): fault()", 0, x::fault);
        x.synthesise();
        DUE.answer("synthesise(): fault()", 0, x::fault);
        DUE.answer("check() of the sum", 0, x::check);
        DUE.answer("check() of the sum: fault()", -1, x::fault);
        x.strip(1);
        x.check();
        x.analyse();
        DUE.answer("analyse() again: fault()", -1, x::fault);
    }
}
