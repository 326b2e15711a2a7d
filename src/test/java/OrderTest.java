/**
 * What comes first where several fit: verdicts, answers of a check, and the least state of each. In most nets
 * here the one that comes first by its kind is the one whose state comes later.
 */
public final class OrderTest {
    private static final int NO_PLACE = ClocklessGates.NONE;
    private static final Due DUE = new Due();

    public static void main(String[] args) {
        tooBigBeforeUnsafe();
        tooBigBeforeWrong();
        tooBigBeforeDisabled();
        tooBigBeforeConflict();
        unsafeBeforeWrong();
        unsafeAndWrongAtOnce();
        unsafeBeforeDisabled();
        unsafeBeforeConflict();
        wrongBeforeDisabled();
        wrongBeforeConflict();
        disabledBeforeConflict();
        leastUnsafeState();
        leastWrongState();
        leastDisabledState();
        leastConflictingState();
        hazardBeforeUnexpected();
        hazardBeforeMissing();
        unexpectedBeforeMissing();
        leastHazardIsWhereTheGateActs();
        leastUnexpectedState();
        leastMissingState();
        DUE.end();
    }

    private static void verdict(String net, ClocklessGates x, int verdict, int fault) {
        DUE.answer(net + ": analyse()", verdict, x::analyse);
        DUE.answer(net + ": fault()", fault, x::fault);
    }

    private static void check(String circuit, ClocklessGates x, int answer, int fault) {
        DUE.answer(circuit + ": check()", answer, x::check);
        DUE.answer(circuit + ": fault()", fault, x::fault);
    }

    private static int token(ClocklessGates x) {
        return x.place(true);
    }

    /** 81 states of inputs 0 .. 3, and output 4. */
    private static ClocklessGates big() {
        ClocklessGates x = new ClocklessGates();
        Nets.chains(x, 2, 2, 2, 2);
        x.signal(false, false);
        return x;
    }

    private static void tooBigBeforeUnsafe() {
        ClocklessGates x = big();
        Nets.through(x, token(x), x.edge(4, true), token(x));
        verdict("too big and unsafe", x, 5, -1);
    }

    private static void tooBigBeforeWrong() {
        ClocklessGates x = big();
        Nets.through(x, token(x), x.edge(4, false), NO_PLACE);
        verdict("too big and wrong", x, 5, -1);
    }

    private static void tooBigBeforeDisabled() {
        ClocklessGates x = big();
        Nets.through(x, 0, x.edge(4, true), NO_PLACE);
        verdict("too big and disabled", x, 5, -1);
    }

    /** Output 4 rises behind the fall of input 0, when the code can be as at first. */
    private static void tooBigBeforeConflict() {
        ClocklessGates x = big();
        int fallen = x.place(false);
        x.arc(fallen, 1, true);
        Nets.through(x, fallen, x.edge(4, true), NO_PLACE);
        verdict("too big and conflict", x, 5, -1);
    }

    /** Input s rises; then it should fall, but there is a token on the place behind that. */
    private static void addLateUnsafe(ClocklessGates x, int s) {
        Nets.through(x, Nets.chain(x, s + 1), x.edge(s, false), token(x));
    }

    /** Input s rises; then it should rise again. */
    private static void addLateWrong(ClocklessGates x, int s) {
        Nets.through(x, Nets.chain(x, s + 1), x.edge(s, true), NO_PLACE);
    }

    /** Signals 1 and 2 rise, but only one of them. */
    private static void addChoice(ClocklessGates x) {
        int shared = token(x);
        Nets.through(x, shared, x.edge(1, true), NO_PLACE);
        Nets.through(x, shared, x.edge(2, true), NO_PLACE);
    }

    /** Input 0 rises and falls, then output 1 rises: state 2 is in conflict with state 0. Answers the place behind. */
    private static int addConflict(ClocklessGates x) {
        return Nets.chain(x, 1, -1, 2);
    }

    private static void unsafeBeforeWrong() {
        ClocklessGates x = Nets.signals(true, true);
        Nets.through(x, token(x), x.edge(1, false), NO_PLACE);
        addLateUnsafe(x, 0);
        verdict("unsafe in state 1, wrong in state 0", x, 1, 1);
    }

    private static void unsafeAndWrongAtOnce() {
        ClocklessGates x = Nets.signals(true);
        Nets.through(x, token(x), x.edge(0, false), token(x));
        verdict("a transition both unsafe and wrong", x, 1, 0);
        DUE.answer("a transition both unsafe and wrong: states()", 1, x::states);
    }

    private static void unsafeBeforeDisabled() {
        ClocklessGates x = Nets.signals(true, false, false);
        addChoice(x);
        addLateUnsafe(x, 0);
        verdict("unsafe in state 3, disabled in state 0", x, 1, 3);
    }

    private static void unsafeBeforeConflict() {
        ClocklessGates x = Nets.signals(true, false);
        Nets.through(x, addConflict(x), x.edge(1, false), token(x));
        verdict("unsafe in state 3, conflict in state 2", x, 1, 3);
    }

    private static void wrongBeforeDisabled() {
        ClocklessGates x = Nets.signals(true, false, false);
        addChoice(x);
        addLateWrong(x, 0);
        verdict("wrong in state 3, disabled in state 0", x, 2, 3);
    }

    private static void wrongBeforeConflict() {
        ClocklessGates x = Nets.signals(true, false);
        Nets.through(x, addConflict(x), x.edge(1, true), NO_PLACE);
        verdict("wrong in state 3, conflict in state 2", x, 2, 3);
    }

    private static void disabledBeforeConflict() {
        ClocklessGates x = Nets.signals(true, false);
        int shared = addConflict(x);
        Nets.through(x, shared, x.edge(0, true), NO_PLACE);
        Nets.through(x, shared, x.edge(1, false), NO_PLACE);
        verdict("disabled in state 3, conflict in state 2", x, 3, 3);
    }

    /** Input 1 rises beside it, so that there are unsafe states 2, 3 and none before them. */
    private static void leastUnsafeState() {
        ClocklessGates x = Nets.signals(true, true);
        Nets.chain(x, 2);
        addLateUnsafe(x, 0);
        verdict("unsafe in states 2 and 3", x, 1, 2);
        DUE.answer("unsafe in states 2 and 3: states()", 4, x::states);
    }

    private static void leastWrongState() {
        ClocklessGates x = Nets.signals(true, true);
        Nets.chain(x, 2);
        addLateWrong(x, 0);
        verdict("wrong in states 2 and 3", x, 2, 2);
        DUE.answer("wrong in states 2 and 3: states()", 4, x::states);
    }

    /** The choice comes behind the rise of input 3, and input 0 may have risen before it. */
    private static void leastDisabledState() {
        ClocklessGates x = Nets.signals(true, false, false, true);
        Nets.chain(x, 1);
        int shared = Nets.chain(x, 4);
        Nets.through(x, shared, x.edge(1, true), NO_PLACE);
        Nets.through(x, shared, x.edge(2, true), NO_PLACE);
        verdict("disabled in states 2 and 3", x, 3, 2);
    }

    /** State 2 conflicts with 0, state 4 with 2, state 6 with 2. */
    private static void leastConflictingState() {
        ClocklessGates x = Nets.signals(true, false);
        Nets.chain(x, 1, -1, 2, -2, 1, -1);
        verdict("conflict in states 2, 4 and 6", x, 4, 2);
        DUE.answer("conflict in states 2, 4 and 6: states()", 7, x::states);
        ClocklessGates y = Nets.signals(true, false);
        Nets.chain(y, 1, -1, 1, -1, 2);
        verdict("the last but one is the first that conflicts", y, 4, 4);
    }

    /** Join of inputs 0 and 1 in output 2, and output 3 that rises at any time; output 4 is still. */
    private static ClocklessGates joinAndMore() {
        ClocklessGates x = Nets.join();
        x.signal(false, false);
        x.signal(false, false);
        Nets.through(x, token(x), x.edge(3, true), NO_PLACE);
        DUE.answer("join and more: analyse()", 0, x::analyse);
        DUE.answer("join and more: synthesise()", 4, x::synthesise);
        check("join and more", x, 0, -1);
        return x;
    }

    private static void gate(ClocklessGates x, int s, int... numbers) {
        x.strip(s);
        for (int number : numbers) {
            x.append(s, number);
        }
    }

    /** Output 2 acts when input 0 alone is high, till input 1 rises: product 1 0 0 2 2. */
    private static final int HASTY = 1 + 2 * 27 + 2 * 81;
    private static final int ALWAYS = 242;

    private static void hazardBeforeUnexpected() {
        ClocklessGates x = joinAndMore();
        gate(x, 4, ALWAYS);
        check("unexpected at first", x, 2, 0);
        gate(x, 2, HASTY);
        check("hazard in state 1, unexpected in state 0", x, 1, 1);
    }

    private static void hazardBeforeMissing() {
        ClocklessGates x = joinAndMore();
        gate(x, 3);
        check("missing at first", x, 3, 0);
        gate(x, 2, HASTY);
        check("hazard in state 1, missing in state 0", x, 1, 1);
    }

    /** Output 1 may rise from the start; output 2, which is still, acts once input 0 has risen. */
    private static void unexpectedBeforeMissing() {
        ClocklessGates x = Nets.signals(true, false, false);
        Nets.chain(x, 1);
        Nets.chain(x, 2);
        DUE.answer("a still output: analyse()", 0, x::analyse);
        check("missing in states 0 and 1", x, 3, 0);
        gate(x, 2, 25);
        check("unexpected in state 1, missing in state 0", x, 2, 1);
        gate(x, 1, 26);
        check("unexpected in state 1", x, 2, 1);
    }

    /** Not the state in which it does not act any more. */
    private static void leastHazardIsWhereTheGateActs() {
        ClocklessGates x = Nets.join();
        x.analyse();
        gate(x, 2, 19, 21);
        check("hazard in states 1 and 2", x, 1, 1);
        gate(x, 2, 21);
        check("hazard in state 2, which comes to 3", x, 1, 2);
    }

    private static void leastUnexpectedState() {
        ClocklessGates x = Nets.join();
        x.analyse();
        gate(x, 2, 22, 25);
        check("unexpected in states 1 and 5", x, 2, 1);
    }

    /** Both outputs are missing in state 1, and output 2 in the states behind the rise of output 1 too. */
    private static void leastMissingState() {
        ClocklessGates x = Nets.signals(true, true, false, false);
        Nets.through(x, Nets.chain(x, 1), x.edge(2, true), NO_PLACE);
        Nets.through(x, Nets.chain(x, 2), x.edge(3, true), NO_PLACE);
        DUE.answer("two followers: analyse()", 0, x::analyse);
        check("missing in states 1, 2 and 3", x, 3, 1);
        gate(x, 2, 79);
        check("missing in states 2 and more", x, 3, 2);
        DUE.answer("two followers: synthesise()", 2, x::synthesise);
        check("nothing is missing", x, 0, -1);
    }
}
