/** Promises 6 to 11: analyse makes the graph; states, code, marking, found, excited. */
public final class GraphTest {
    private static final Due DUE = new Due();

    public static void main(String[] args) {
        ringHasItsStatesInOrder();
        statesAreNumberedAsTheyAreFound();
        sameMarkingWithOtherCodeIsAnotherState();
        stateNumbersAreLookedAt();
        unsafeAndWrongTransitionsAreEnabledButDoNotFire();
        graphHasAtMostEightyStates();
        analyseDiscardsGates();
        DUE.end();
    }

    private static void state(String net, ClocklessGates x, int k, int code, int marking, int found, int excited) {
        DUE.answer(net + ": code(" + k + ")", code, () -> x.code(k));
        DUE.answer(net + ": marking(" + k + ")", marking, () -> x.marking(k));
        DUE.answer(net + ": found(" + k + ")", found, () -> x.found(k));
        DUE.answer(net + ": excited(" + k + ")", excited, () -> x.excited(k));
    }

    private static void ringHasItsStatesInOrder() {
        ClocklessGates x = Nets.follower();
        DUE.answer("follower: analyse()", 0, x::analyse);
        DUE.answer("follower: states()", 4, x::states);
        state("follower", x, 0, 0, 1, -1, 0);
        state("follower", x, 1, 1, 2, 0, 2);
        state("follower", x, 2, 3, 4, 101, 0);
        state("follower", x, 3, 2, 8, 202, 2);
    }

    private static void statesAreNumberedAsTheyAreFound() {
        ClocklessGates x = Nets.join();
        DUE.answer("join: analyse()", 0, x::analyse);
        DUE.answer("join: states()", 8, x::states);
        state("join", x, 0, 0, 3, -1, 0);
        state("join", x, 1, 1, 6, 0, 0);
        state("join", x, 2, 2, 9, 1, 0);
        state("join", x, 3, 3, 12, 101, 4);
        state("join", x, 4, 7, 48, 302, 0);
        state("join", x, 5, 6, 96, 403, 0);
        state("join", x, 6, 5, 144, 404, 0);
        state("join", x, 7, 4, 192, 504, 4);
    }

    private static void sameMarkingWithOtherCodeIsAnotherState() {
        ClocklessGates x = new ClocklessGates();
        x.signal(true, false);
        x.edge(0, true);
        x.place(true);
        x.arc(0, 0, false);
        x.arc(0, 0, true);
        DUE.answer("one edge again: analyse()", 2, x::analyse);
        DUE.answer("one edge again: states()", 2, x::states);
        state("one edge again", x, 1, 1, 1, 0, 0);
    }

    private static void stateNumbersAreLookedAt() {
        ClocklessGates x = Nets.follower();
        DUE.refusal("no graph: code(9)", IllegalStateException.class, () -> x.code(9));
        DUE.refusal("no graph: marking(-1)", IllegalStateException.class, () -> x.marking(-1));
        DUE.refusal("no graph: found(9)", IllegalStateException.class, () -> x.found(9));
        DUE.refusal("no graph: excited(-1)", IllegalStateException.class, () -> x.excited(-1));
        DUE.refusal("no graph: states()", IllegalStateException.class, x::states);
        x.analyse();
        for (int k : new int[] {-1, 4, 80, Integer.MIN_VALUE, Integer.MAX_VALUE}) {
            DUE.refusal("code(" + k + ")", IndexOutOfBoundsException.class, () -> x.code(k));
            DUE.refusal("marking(" + k + ")", IndexOutOfBoundsException.class, () -> x.marking(k));
            DUE.refusal("found(" + k + ")", IndexOutOfBoundsException.class, () -> x.found(k));
            DUE.refusal("excited(" + k + ")", IndexOutOfBoundsException.class, () -> x.excited(k));
        }
    }

    private static void unsafeAndWrongTransitionsAreEnabledButDoNotFire() {
        ClocklessGates x = new ClocklessGates();
        x.signal(false, false);
        x.signal(false, false);
        x.edge(0, true);
        x.edge(1, false);
        x.place(true);
        x.place(true);
        x.arc(0, 0, false);
        x.arc(1, 0, true);
        DUE.answer("stuck: analyse()", 1, x::analyse);
        DUE.answer("stuck: states()", 1, x::states);
        state("stuck", x, 0, 0, 3, -1, 3);
    }

    private static void graphHasAtMostEightyStates() {
        ClocklessGates fits = new ClocklessGates();
        Nets.chains(fits, 4, 3, 3);
        DUE.answer("80 states: analyse()", 0, fits::analyse);
        DUE.answer("80 states: fault()", -1, fits::fault);
        DUE.answer("80 states: states()", 80, fits::states);
        DUE.answer("80 states: marking(79)", 0, () -> fits.marking(79));
        DUE.answer("80 states: code(79)", 6, () -> fits.code(79));
        ClocklessGates exceeds = new ClocklessGates();
        Nets.chains(exceeds, 2, 2, 2, 2);
        DUE.answer("81 states: analyse()", 5, exceeds::analyse);
        DUE.answer("81 states: fault()", -1, exceeds::fault);
        DUE.refusal("81 states: states()", IllegalStateException.class, exceeds::states);
        DUE.refusal("81 states: code(0)", IllegalStateException.class, () -> exceeds.code(0));
        DUE.refusal("81 states: synthesise()", IllegalStateException.class, exceeds::synthesise);
        DUE.refusal("81 states: check()", IllegalStateException.class, exceeds::check);
        ClocklessGates most = Nets.free(5);
        DUE.answer("32 states: analyse()", 0, most::analyse);
        DUE.answer("32 states: states()", 32, most::states);
    }

    private static void analyseDiscardsGates() {
        ClocklessGates x = Nets.follower();
        DUE.answer("append before analyse", 0, () -> x.append(1, 7));
        x.analyse();
        DUE.answer("products(1) behind analyse", 0, () -> x.products(1));
        x.synthesise();
        DUE.answer("products(1) behind synthesise", 1, () -> x.products(1));
        x.analyse();
        DUE.answer("products(1) behind analyse again", 0, () -> x.products(1));
        DUE.answer("value(1, 1) behind analyse again", 0, () -> x.value(1, 1));
        DUE.answer("states() behind analyse again", 4, x::states);
    }
}
