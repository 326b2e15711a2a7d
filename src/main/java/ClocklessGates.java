/**
 * Makes circuits of gates that need no clock: a net of signal edges, the graph of its states, a
 * least sum of products for each output, and a check of the circuit in all orders of events.
 *
 * Sets of places, of signals and of codes are held as bits of an int throughout, so that all rows
 * can be made once, in the constructors, and no later call makes an object.
 */
public final class ClocklessGates {
    public static final int NONE = -1;

    private static final int MAX_SIGNALS = 5;
    private static final int MAX_EDGES = 14;
    private static final int MAX_PLACES = 16;
    private static final int MAX_STATES = 80;
    private static final int MAX_PRODUCTS = 8;
    private static final int ALL_CODES = 32;
    private static final int ALL_PRODUCTS = 243;
    private static final int[] POWER_OF_THREE = {1, 3, 9, 27, 81, 243};

    private static final int FINE = 0;
    private static final int UNSAFE = 1;
    private static final int WRONG = 2;
    private static final int DISABLED = 3;
    private static final int CONFLICT = 4;
    private static final int TOO_BIG = 5;

    private static final int PASSED = 0;
    private static final int HAZARD = 1;
    private static final int UNEXPECTED = 2;
    private static final int MISSING = 3;

    private final Net net;
    private final Graph graph;
    private final Circuit circuit;
    private final LeastSum leastSum;
    private int verdict;
    private int latestFault;

    public ClocklessGates() {
        net = new Net();
        graph = new Graph();
        circuit = new Circuit();
        leastSum = new LeastSum();
        verdict = NONE;
        latestFault = NONE;
    }

    public int signal(boolean input, boolean high) throws IllegalStateException {
        if (net.signalCount >= MAX_SIGNALS) {
            throw new IllegalStateException("there are 5 signals already");
        }
        discardResults();
        return net.addSignal(input, high);
    }

    public int edge(int signal, boolean rising) throws IndexOutOfBoundsException, IllegalStateException {
        requireSignal(signal);
        if (net.edgeCount >= MAX_EDGES) {
            throw new IllegalStateException("there are 14 transitions already");
        }
        discardResults();
        return net.addEdge(signal, rising);
    }

    public int place(boolean token) throws IllegalStateException {
        if (net.placeCount >= MAX_PLACES) {
            throw new IllegalStateException("there are 16 places already");
        }
        discardResults();
        return net.addPlace(token);
    }

    public void arc(int place, int transition, boolean behind)
            throws IndexOutOfBoundsException, IllegalArgumentException {
        if (place < 0 || place >= net.placeCount) {
            throw new IndexOutOfBoundsException("no such place");
        }
        if (transition < 0 || transition >= net.edgeCount) {
            throw new IndexOutOfBoundsException("no such transition");
        }
        if (net.hasArc(place, transition, behind)) {
            throw new IllegalArgumentException("the place is there already");
        }
        discardResults();
        net.addArc(place, transition, behind);
    }

    public int analyse() {
        discardResults();
        graph.build(net);
        verdict = graph.judge(net);
        latestFault = graph.faultState;
        return verdict;
    }

    public int states() throws IllegalStateException {
        requireGraph();
        return graph.count;
    }

    public int code(int k) throws IllegalStateException, IndexOutOfBoundsException {
        requireState(k);
        return graph.codes[k];
    }

    public int marking(int k) throws IllegalStateException, IndexOutOfBoundsException {
        requireState(k);
        return graph.markings[k];
    }

    public int found(int k) throws IllegalStateException, IndexOutOfBoundsException {
        requireState(k);
        return graph.origins[k];
    }

    public int excited(int k) throws IllegalStateException, IndexOutOfBoundsException {
        requireState(k);
        return graph.excitedOutputs[k];
    }

    public int fault() {
        return latestFault;
    }

    public int synthesise() throws IllegalStateException, UnsupportedOperationException {
        requireFine();
        int total = 0;
        for (int s = 0; s < net.signalCount; s++) {
            // Drafts, because the gates must stay as they are if a later output has no sum.
            if (!makeDraft(s)) {
                throw new UnsupportedOperationException("a least sum has more than 8 products");
            }
            total += circuit.drafts[s].count;
        }
        circuit.adoptDrafts();
        return total;
    }

    public int products(int s) throws IndexOutOfBoundsException {
        requireSignal(s);
        return circuit.gates[s].count;
    }

    public int product(int s, int k) throws IndexOutOfBoundsException {
        requireSignal(s);
        if (k < 0 || k >= circuit.gates[s].count) {
            throw new IndexOutOfBoundsException("no such product");
        }
        return circuit.gates[s].numbers[k];
    }

    public int append(int s, int number)
            throws IndexOutOfBoundsException, IllegalArgumentException, IllegalStateException {
        requireSignal(s);
        if (net.isInput(s)) {
            throw new IllegalArgumentException("an input has no gate to append to");
        }
        if (number < 0 || number >= POWER_OF_THREE[net.signalCount]) {
            throw new IllegalArgumentException("no such product for these signals");
        }
        if (circuit.gates[s].count >= MAX_PRODUCTS) {
            throw new IllegalStateException("the gate has 8 products already");
        }
        return circuit.gates[s].add(number, leastSum.spanOf(number));
    }

    public void strip(int s) throws IndexOutOfBoundsException {
        requireSignal(s);
        circuit.gates[s].clear();
    }

    public int value(int s, int code) throws IndexOutOfBoundsException {
        requireSignal(s);
        if (code < 0 || code >= 1 << net.signalCount) {
            throw new IndexOutOfBoundsException("no such code for these signals");
        }
        return circuit.gates[s].output(code);
    }

    public int check() throws IllegalStateException {
        requireFine();
        int answer = circuit.explore(net, graph);
        latestFault = circuit.faultState;
        return answer;
    }

    /** Whether signal s has a least sum that a gate can hold; that of an input is empty. */
    private boolean makeDraft(int s) {
        circuit.drafts[s].clear();
        if (net.isInput(s)) {
            return true;
        }
        int on = graph.codesWithNext(s, 1);
        int off = graph.codesWithNext(s, 0);
        if (!leastSum.find(on, off, net.signalCount)) {
            return false;
        }
        leastSum.giveTo(circuit.drafts[s]);
        return true;
    }

    private void discardResults() {
        graph.count = 0;
        circuit.clear();
        verdict = NONE;
        latestFault = NONE;
    }

    private void requireSignal(int s) {
        if (s < 0 || s >= net.signalCount) {
            throw new IndexOutOfBoundsException("no such signal");
        }
    }

    private void requireGraph() {
        if (graph.count == 0) {
            throw new IllegalStateException("there is no graph");
        }
    }

    private void requireState(int k) {
        requireGraph();
        if (k < 0 || k >= graph.count) {
            throw new IndexOutOfBoundsException("no such state");
        }
    }

    private void requireFine() {
        if (verdict != FINE) {
            throw new IllegalStateException("the latest verdict is not FINE");
        }
    }

    /** The signals, transitions and places as they were added. */
    private static final class Net {
        int signalCount;
        int edgeCount;
        int placeCount;
        int firstCode;
        int firstMarking;
        /** The edge bits of all outputs, both directions. */
        int outputEdges;
        private int inputs;
        private final int[] edgeSignals = new int[MAX_EDGES];
        private final boolean[] edgeRises = new boolean[MAX_EDGES];
        private final int[] placesBefore = new int[MAX_EDGES];
        private final int[] placesBehind = new int[MAX_EDGES];

        int addSignal(boolean input, boolean high) {
            int bit = 1 << signalCount;
            inputs |= input ? bit : 0;
            outputEdges |= input ? 0 : 3 << (2 * signalCount);
            firstCode |= high ? bit : 0;
            signalCount++;
            return signalCount - 1;
        }

        int addEdge(int signal, boolean rising) {
            edgeSignals[edgeCount] = signal;
            edgeRises[edgeCount] = rising;
            edgeCount++;
            return edgeCount - 1;
        }

        int addPlace(boolean token) {
            firstMarking |= token ? 1 << placeCount : 0;
            placeCount++;
            return placeCount - 1;
        }

        void addArc(int place, int t, boolean behind) {
            if (behind) {
                placesBehind[t] |= 1 << place;
            } else {
                placesBefore[t] |= 1 << place;
            }
        }

        boolean hasArc(int place, int t, boolean behind) {
            int places = behind ? placesBehind[t] : placesBefore[t];
            return (places >> place & 1) == 1;
        }

        boolean isInput(int s) {
            return (inputs >> s & 1) == 1;
        }

        int signalOf(int t) {
            return edgeSignals[t];
        }

        /** The value that the signal of a transition gets by it. */
        int levelAfter(int t) {
            return edgeRises[t] ? 1 : 0;
        }

        /** Transitions with the same signal and direction have the same bit. */
        int edgeBit(int t) {
            return 1 << (2 * edgeSignals[t] + levelAfter(t));
        }

        boolean isEnabled(int t, int marking) {
            return (placesBefore[t] & ~marking) == 0;
        }

        boolean isSafe(int t, int marking) {
            return (placesBehind[t] & ~placesBefore[t] & marking) == 0;
        }

        boolean isRight(int t, int code) {
            return (code >> edgeSignals[t] & 1) != levelAfter(t);
        }

        int markingAfter(int t, int marking) {
            return marking & ~placesBefore[t] | placesBehind[t];
        }

        int codeAfter(int t, int code) {
            int bit = 1 << edgeSignals[t];
            return edgeRises[t] ? code | bit : code & ~bit;
        }
    }

    /** The states that the net comes to, and what they say of it. No states means no graph. */
    private static final class Graph {
        int count;
        int faultState;
        final int[] markings = new int[MAX_STATES];
        final int[] codes = new int[MAX_STATES];
        final int[] origins = new int[MAX_STATES];
        final int[] excitedOutputs = new int[MAX_STATES];
        private final int[] enabledEdges = new int[MAX_STATES];
        private final int[] successors = new int[MAX_STATES * MAX_EDGES];
        private boolean tooBig;
        private int unsafeState;
        private int wrongState;

        /** The state that comes of state k by transition t; NONE when t may not fire there. */
        int successor(int k, int t) {
            return successors[k * MAX_EDGES + t];
        }

        boolean isExcited(int s, int k) {
            return (excitedOutputs[k] >> s & 1) == 1;
        }

        void build(Net net) {
            tooBig = false;
            unsafeState = NONE;
            wrongState = NONE;
            count = 0;
            addState(net.firstMarking, net.firstCode, NONE);
            for (int k = 0; k < MAX_STATES && k < count && !tooBig; k++) {
                expand(net, k);
            }
            if (tooBig) {
                count = 0;
            }
        }

        private void expand(Net net, int k) {
            for (int t = 0; t < net.edgeCount; t++) {
                successors[k * MAX_EDGES + t] = NONE;
                if (net.isEnabled(t, markings[k])) {
                    noteEnabled(net, k, t);
                    boolean safe = net.isSafe(t, markings[k]);
                    boolean right = net.isRight(t, codes[k]);
                    if (safe && right) {
                        successors[k * MAX_EDGES + t] = fire(net, k, t);
                    }
                    // States are expanded in rising order, so the first one noted is the least.
                    if (!safe && unsafeState == NONE) {
                        unsafeState = k;
                    }
                    if (!right && wrongState == NONE) {
                        wrongState = k;
                    }
                }
            }
        }

        private void noteEnabled(Net net, int k, int t) {
            enabledEdges[k] |= net.edgeBit(t);
            if (!net.isInput(net.signalOf(t))) {
                excitedOutputs[k] |= 1 << net.signalOf(t);
            }
        }

        private int fire(Net net, int k, int t) {
            int marking = net.markingAfter(t, markings[k]);
            int code = net.codeAfter(t, codes[k]);
            for (int j = 0; j < count; j++) {
                if (markings[j] == marking && codes[j] == code) {
                    return j;
                }
            }
            if (count >= MAX_STATES) {
                tooBig = true;
                return NONE;
            }
            return addState(marking, code, 100 * k + t);
        }

        private int addState(int marking, int code, int origin) {
            markings[count] = marking;
            codes[count] = code;
            origins[count] = origin;
            excitedOutputs[count] = 0;
            enabledEdges[count] = 0;
            count++;
            return count - 1;
        }

        /** Answers the verdict and leaves its fault in faultState. */
        int judge(Net net) {
            faultState = NONE;
            if (tooBig) {
                return TOO_BIG;
            }
            faultState = unsafeState;
            if (faultState != NONE) {
                return UNSAFE;
            }
            faultState = wrongState;
            if (faultState != NONE) {
                return WRONG;
            }
            faultState = leastDisablingState(net);
            if (faultState != NONE) {
                return DISABLED;
            }
            faultState = leastConflictingState();
            return faultState != NONE ? CONFLICT : FINE;
        }

        private int leastDisablingState(Net net) {
            for (int k = 0; k < count; k++) {
                for (int t = 0; t < net.edgeCount; t++) {
                    if (successor(k, t) != NONE && losesEdge(net, k, t)) {
                        return k;
                    }
                }
            }
            return NONE;
        }

        /** An input may take an edge from another input, but not from an output. */
        private boolean losesEdge(Net net, int k, int t) {
            int lost = enabledEdges[k] & ~enabledEdges[successor(k, t)] & ~net.edgeBit(t);
            if (net.isInput(net.signalOf(t))) {
                lost &= net.outputEdges;
            }
            return lost != 0;
        }

        private int leastConflictingState() {
            for (int k = 0; k < count; k++) {
                for (int j = 0; j < k; j++) {
                    if (codes[j] == codes[k] && excitedOutputs[j] != excitedOutputs[k]) {
                        return k;
                    }
                }
            }
            return NONE;
        }

        /** The codes, as bits, of the states where the next value of output s is the given one. */
        int codesWithNext(int s, int level) {
            int set = 0;
            for (int k = 0; k < count; k++) {
                int now = codes[k] >> s & 1;
                int next = isExcited(s, k) ? 1 - now : now;
                set |= next == level ? 1 << codes[k] : 0;
            }
            return set;
        }
    }

    /** A row of products; the codes that they cover together are held beside it, as bits. */
    private static final class Gate {
        int count;
        final int[] numbers = new int[MAX_PRODUCTS];
        private int covered;

        void clear() {
            count = 0;
            covered = 0;
        }

        int add(int number, int span) {
            numbers[count] = number;
            covered |= span;
            count++;
            return count - 1;
        }

        int output(int code) {
            return covered >>> code & 1;
        }
    }

    /** The gates of all signals (those of inputs stay empty), and the check of them. */
    private static final class Circuit {
        int faultState;
        final Gate[] gates = new Gate[MAX_SIGNALS];
        final Gate[] drafts = new Gate[MAX_SIGNALS];
        private final boolean[] reached = new boolean[MAX_STATES];
        private final int[] waiting = new int[MAX_STATES];
        private int waitingCount;

        Circuit() {
            for (int s = 0; s < MAX_SIGNALS; s++) {
                gates[s] = new Gate();
                drafts[s] = new Gate();
            }
        }

        void clear() {
            for (int s = 0; s < MAX_SIGNALS; s++) {
                gates[s].clear();
            }
        }

        void adoptDrafts() {
            for (int s = 0; s < MAX_SIGNALS; s++) {
                Gate old = gates[s];
                gates[s] = drafts[s];
                drafts[s] = old;
            }
        }

        /** Answers the first kind of fault that fits and leaves its least state in faultState. */
        int explore(Net net, Graph graph) {
            reachStates(net, graph);
            for (int kind = HAZARD; kind <= MISSING; kind++) {
                faultState = leastFaultyState(net, graph, kind);
                if (faultState != NONE) {
                    return kind;
                }
            }
            return PASSED;
        }

        private void reachStates(Net net, Graph graph) {
            for (int k = 0; k < MAX_STATES; k++) {
                reached[k] = false;
            }
            waitingCount = 0;
            reach(0);
            // Each state waits at most once.
            for (int turn = 0; turn < MAX_STATES && turn < waitingCount; turn++) {
                int k = waiting[turn];
                for (int t = 0; t < net.edgeCount; t++) {
                    if (mayFire(net, graph, k, t)) {
                        reach(graph.successor(k, t));
                    }
                }
            }
        }

        private void reach(int k) {
            if (!reached[k]) {
                reached[k] = true;
                waiting[waitingCount] = k;
                waitingCount++;
            }
        }

        /** With verdict FINE each enabled transition has a successor. */
        private boolean mayFire(Net net, Graph graph, int k, int t) {
            if (graph.successor(k, t) == NONE) {
                return false;
            }
            int s = net.signalOf(t);
            return net.isInput(s) || gates[s].output(graph.codes[k]) == net.levelAfter(t);
        }

        private boolean acts(int s, int code) {
            return gates[s].output(code) != (code >> s & 1);
        }

        private int leastFaultyState(Net net, Graph graph, int kind) {
            for (int k = 0; k < graph.count; k++) {
                for (int s = 0; s < net.signalCount; s++) {
                    if (reached[k] && !net.isInput(s) && isFaulty(net, graph, k, s, kind)) {
                        return k;
                    }
                }
            }
            return NONE;
        }

        private boolean isFaulty(Net net, Graph graph, int k, int s, int kind) {
            boolean acting = acts(s, graph.codes[k]);
            // With verdict FINE an enabled transition of s always changes s, so to be excited is
            // to be about to become what an acting gate says.
            switch (kind) {
                case HAZARD:
                    return acting && mayStopActing(net, graph, k, s);
                case UNEXPECTED:
                    return acting && !graph.isExcited(s, k);
                default:
                    return !acting && graph.isExcited(s, k);
            }
        }

        private boolean mayStopActing(Net net, Graph graph, int k, int s) {
            for (int t = 0; t < net.edgeCount; t++) {
                if (net.signalOf(t) != s && mayFire(net, graph, k, t)
                        && !acts(s, graph.codes[graph.successor(k, t)])) {
                    return true;
                }
            }
            return false;
        }
    }

    /** Finds the least set of primes that covers the on codes of one output. */
    private static final class LeastSum {
        /** More than all digits of 8 products, so that one product less outweighs them. */
        private static final int COST_OF_PRODUCT = 100;
        private static final int COST_BEYOND_ANY_GATE = 900;

        private final int[] spans;
        private final int[] primes = new int[ALL_PRODUCTS];
        private final int[] covers = new int[ALL_PRODUCTS];
        private final int[] costs = new int[ALL_PRODUCTS];
        private final int[] barredAt = new int[ALL_PRODUCTS];
        private final boolean[] taken = new boolean[ALL_PRODUCTS];
        private final boolean[] best = new boolean[ALL_PRODUCTS];
        private final int[] rivals = new int[ALL_CODES];
        private int primeCount;
        private int widestCover;
        private int bestCost;

        LeastSum() {
            spans = spansOfAllProducts();
        }

        /**
         * For each product the codes that it covers, as bits. One table serves any number of signals:
         * a signal that is not there has digit 0 in every number and is low in every code.
         */
        private static int[] spansOfAllProducts() {
            int[] table = new int[ALL_PRODUCTS];
            table[0] = 1;
            for (int s = 0; s < MAX_SIGNALS; s++) {
                int step = POWER_OF_THREE[s];
                for (int number = 0; number < step; number++) {
                    int high = table[number] << (1 << s);
                    table[number + step] = high;
                    table[number + 2 * step] = table[number] | high;
                }
            }
            return table;
        }

        /** The codes, as bits, that a product covers. */
        int spanOf(int number) {
            return spans[number];
        }

        /** Whether there is a sum of at most 8 products. */
        boolean find(int on, int off, int signalCount) {
            collectPrimes(on, off, signalCount);
            countRivals();
            bestCost = COST_BEYOND_ANY_GATE;
            search(this, 0, on, 0);
            return bestCost < COST_BEYOND_ANY_GATE;
        }

        void giveTo(Gate gate) {
            for (int i = 0; i < primeCount; i++) {
                if (best[i]) {
                    gate.add(primes[i], spans[primes[i]]);
                }
            }
        }

        /** A prime that covers no on code is left out: a sum without it has fewer products. */
        private void collectPrimes(int on, int off, int signalCount) {
            primeCount = 0;
            widestCover = 1;
            for (int number = 0; number < POWER_OF_THREE[signalCount]; number++) {
                int cover = spans[number] & on;
                if (cover != 0 && isPrime(number, off, signalCount)) {
                    primes[primeCount] = number;
                    covers[primeCount] = cover;
                    costs[primeCount] = COST_OF_PRODUCT + fixedDigits(number, signalCount);
                    barredAt[primeCount] = 0;
                    taken[primeCount] = false;
                    widestCover = Math.max(widestCover, Integer.bitCount(cover));
                    primeCount++;
                }
            }
        }

        private boolean isPrime(int number, int off, int signalCount) {
            if ((spans[number] & off) != 0) {
                return false;
            }
            for (int s = 0; s < signalCount; s++) {
                int freed = number + (2 - digit(number, s)) * POWER_OF_THREE[s];
                if (freed != number && (spans[freed] & off) == 0) {
                    return false;
                }
            }
            return true;
        }

        private static int fixedDigits(int number, int signalCount) {
            int fixed = 0;
            for (int s = 0; s < signalCount; s++) {
                fixed += digit(number, s) != 2 ? 1 : 0;
            }
            return fixed;
        }

        private static int digit(int number, int s) {
            return number / POWER_OF_THREE[s] % 3;
        }

        private void countRivals() {
            for (int code = 0; code < ALL_CODES; code++) {
                rivals[code] = 0;
                for (int i = 0; i < primeCount; i++) {
                    rivals[code] += covers[i] >>> code & 1;
                }
            }
        }

        /**
         * Tries all sums that add primes to those taken until no code is open. Each prime that was
         * tried for a code is barred for its later rivals, so that no sum is met twice.
         */
        private static void search(LeastSum sum, int depth, int open, int cost) {
            if (open == 0) {
                sum.keepIfLess(cost);
                return;
            }
            if (depth >= MAX_PRODUCTS || cost + sum.leastCostOf(open) > sum.bestCost) {
                return;
            }
            int code = sum.codeWithFewestRivals(open);
            for (int i = 0; i < sum.primeCount; i++) {
                if (sum.barredAt[i] == 0 && (sum.covers[i] >>> code & 1) == 1) {
                    sum.taken[i] = true;
                    search(sum, depth + 1, open & ~sum.covers[i], cost + sum.costs[i]);
                    sum.taken[i] = false;
                    sum.barredAt[i] = depth + 1;
                }
            }
            sum.liftBars(depth + 1);
        }

        private void liftBars(int depth) {
            for (int i = 0; i < primeCount; i++) {
                if (barredAt[i] == depth) {
                    barredAt[i] = 0;
                }
            }
        }

        private int leastCostOf(int open) {
            return (Integer.bitCount(open) + widestCover - 1) / widestCover * COST_OF_PRODUCT;
        }

        /** Branching where there is the least choice keeps the search small. */
        private int codeWithFewestRivals(int open) {
            int chosen = 0;
            int fewest = ALL_PRODUCTS;
            for (int code = 0; code < ALL_CODES; code++) {
                if ((open >>> code & 1) == 1 && rivals[code] < fewest) {
                    chosen = code;
                    fewest = rivals[code];
                }
            }
            return chosen;
        }

        private void keepIfLess(int cost) {
            if (cost < bestCost || cost == bestCost && takenComesFirst()) {
                bestCost = cost;
                for (int i = 0; i < primeCount; i++) {
                    best[i] = taken[i];
                }
            }
        }

        /**
         * Of two sums with as many products, that one is less at the first place where the rising
         * numbers differ which has the least prime that the other one has not.
         */
        private boolean takenComesFirst() {
            for (int i = 0; i < primeCount; i++) {
                if (taken[i] != best[i]) {
                    return taken[i];
                }
            }
            return false;
        }
    }
}
