/** Nets that several tests use. */
final class Nets {
    private Nets() {
    }

    /** Arcs from a place (or NONE) to a transition and on to a place (or NONE). */
    static void through(ClocklessGates x, int before, int transition, int behind) {
        if (before != ClocklessGates.NONE) {
            x.arc(before, transition, false);
        }
        if (behind != ClocklessGates.NONE) {
            x.arc(behind, transition, true);
        }
    }

    /** A ring of edges, a place before each, the token before the first; s + 1: s rises, -s - 1: it falls. */
    static void ring(ClocklessGates x, int... edges) {
        int first = x.place(true);
        int here = first;
        for (int i = 0; i < edges.length; i++) {
            int t = x.edge(Math.abs(edges[i]) - 1, edges[i] > 0);
            int next = i + 1 < edges.length ? x.place(false) : first;
            through(x, here, t, next);
            here = next;
        }
    }

    /** Input 0 and output 1 that follows it: the states have the codes 0, 1, 3, 2. */
    static ClocklessGates follower() {
        ClocklessGates x = new ClocklessGates();
        x.signal(true, false);
        x.signal(false, false);
        ring(x, 1, 2, -1, -2);
        return x;
    }

    /** Inputs 0 and 1, output 2 that rises behind both and falls behind both. */
    static ClocklessGates join() {
        ClocklessGates x = new ClocklessGates();
        x.signal(true, false);
        x.signal(true, false);
        x.signal(false, false);
        for (int i = 0; i < 6; i++) {
            x.edge(i % 3, i < 3);
        }
        for (int i = 0; i < 8; i++) {
            x.place(i < 2);
        }
        through(x, 0, 0, 2);
        through(x, 1, 1, 3);
        through(x, 2, 2, 4);
        through(x, 3, 2, 5);
        through(x, 4, 3, 6);
        through(x, 5, 4, 7);
        through(x, 6, 5, 0);
        through(x, 7, 5, 1);
        return x;
    }

    /**
     * Inputs 0 .. 3 that toggle one at a time, and output 4 that answers each toggle, so that it is
     * their parity. With a stop the output does not fall again when all inputs are low: then the
     * least sum has a ninth product.
     */
    static ClocklessGates parity(boolean stop) {
        ClocklessGates x = new ClocklessGates();
        for (int s = 0; s < 4; s++) {
            x.signal(true, false);
        }
        x.signal(false, false);
        for (int i = 0; i < 10; i++) {
            x.place(i % 2 == 0);
        }
        int inputsTurn = x.place(true);
        int outputsTurn = x.place(false);
        for (int s = 0; s < 4; s++) {
            addToggle(x, s, true, inputsTurn, outputsTurn);
            addToggle(x, s, false, inputsTurn, outputsTurn);
        }
        addToggle(x, 4, true, outputsTurn, inputsTurn);
        addToggle(x, 4, false, outputsTurn, inputsTurn);
        if (stop) {
            addStop(x);
        }
        return x;
    }

    /** Makes parity without a stop one with it: the fall, transition 9, needs an input that is high. */
    static void addStop(ClocklessGates x) {
        addReads(x, 9, 1);
        for (int s = 1; s < 4; s++) {
            addReads(x, addToggle(x, 4, false, 11, 10), 2 * s + 1);
        }
    }

    /**
     * Output 0 whose least sum has two products, and output 4 whose least sum has nine. Inputs 1 .. 3 toggle
     * one at a time, and one of the outputs answers, or none does and all stands still.
     */
    static ClocklessGates shortAndLongSum() {
        ClocklessGates x = new ClocklessGates();
        for (int s = 0; s < 5; s++) {
            x.signal(s > 0 && s < 4, false);
            x.place(true);
            x.place(false);
        }
        int inputsTurn = x.place(true);
        int outputsTurn = x.place(false);
        for (int s = 1; s < 4; s++) {
            addToggle(x, s, true, inputsTurn, outputsTurn);
            addToggle(x, s, false, inputsTurn, outputsTurn);
        }
        addToggle(x, 4, true, outputsTurn, inputsTurn);
        addReads(x, addToggle(x, 0, true, outputsTurn, inputsTurn), 4, 6, 9);
        addReads(x, addToggle(x, 4, false, outputsTurn, inputsTurn), 7);
        addReads(x, addToggle(x, 4, false, outputsTurn, inputsTurn), 1, 4);
        addReads(x, addToggle(x, 4, false, outputsTurn, inputsTurn), 3, 5, 6);
        return x;
    }

    /** Places that the transition needs, and gives back. */
    private static void addReads(ClocklessGates x, int t, int... places) {
        for (int p : places) {
            through(x, p, t, p);
        }
    }

    /** Place 2s has a token while signal s is low, place 2s + 1 while it is high. */
    private static int addToggle(ClocklessGates x, int s, boolean rising, int turn, int nextTurn) {
        int t = x.edge(s, rising);
        through(x, 2 * s + (rising ? 0 : 1), t, 2 * s + (rising ? 1 : 0));
        through(x, turn, t, nextTurn);
        return t;
    }

    /** n input signals that rise and fall on their own: 2^n states. */
    static ClocklessGates free(int n) {
        ClocklessGates x = new ClocklessGates();
        for (int s = 0; s < n; s++) {
            x.signal(true, false);
            ring(x, s + 1, -s - 1);
        }
        return x;
    }

    /** Signal s, an input, walks up and down a chain of so many edges: lengths[s] + 1 states of its own. */
    static void chains(ClocklessGates x, int... lengths) {
        for (int s = 0; s < lengths.length; s++) {
            x.signal(true, false);
            int here = x.place(true);
            for (int i = 0; i < lengths[s]; i++) {
                int t = x.edge(s, i % 2 == 0);
                int next = i + 1 < lengths[s] ? x.place(false) : ClocklessGates.NONE;
                through(x, here, t, next);
                here = next;
            }
        }
    }

    /** A chain of edges from a token on; s + 1: s rises, -s - 1: it falls. Answers the last place. */
    static int chain(ClocklessGates x, int... edges) {
        int here = x.place(true);
        for (int edge : edges) {
            int next = x.place(false);
            through(x, here, x.edge(Math.abs(edge) - 1, edge > 0), next);
            here = next;
        }
        return here;
    }

    /** An object with these signals, all low: true for an input. */
    static ClocklessGates signals(boolean... inputs) {
        ClocklessGates x = new ClocklessGates();
        for (boolean input : inputs) {
            x.signal(input, false);
        }
        return x;
    }

    /** A net, not analysed yet, with this verdict; its last signal is an output. */
    static ClocklessGates withVerdict(int verdict) {
        switch (verdict) {
            case 0:
                return follower();
            case 1: {
                ClocklessGates x = signals(true, false);
                x.place(true);
                x.place(true);
                through(x, 0, x.edge(0, true), 1);
                return x;
            }
            case 2: {
                ClocklessGates x = signals(true, false);
                through(x, x.place(true), x.edge(0, false), ClocklessGates.NONE);
                return x;
            }
            case 3: {
                ClocklessGates x = signals(true, false);
                x.place(true);
                through(x, 0, x.edge(0, true), ClocklessGates.NONE);
                through(x, 0, x.edge(1, true), ClocklessGates.NONE);
                return x;
            }
            case 4: {
                ClocklessGates x = signals(true, false);
                ring(x, 1, -1, 2, -2);
                return x;
            }
            default: {
                ClocklessGates x = new ClocklessGates();
                chains(x, 2, 2, 2, 2);
                x.signal(false, false);
                return x;
            }
        }
    }

    /** Parity, filled up to 5 signals, 14 transitions and 16 places; what is more than parity is never enabled. */
    static ClocklessGates full() {
        ClocklessGates x = parity(false);
        for (int i = 0; i < 4; i++) {
            through(x, x.place(false), x.edge(4, i % 2 == 0), i);
        }
        return x;
    }

    /** A follower with a graph, the verdict FINE, a gate of two products and a fault, 0, of a check. */
    static ClocklessGates busy() {
        ClocklessGates x = follower();
        x.analyse();
        x.synthesise();
        x.append(1, 8);
        x.check();
        return x;
    }

    /** As busy, but nothing can be added any more, no product either; the fault is 4. */
    static ClocklessGates fullAndBusy() {
        ClocklessGates x = full();
        x.analyse();
        for (int number : new int[] {163, 165, 171, 175, 175, 193, 199, 201}) {
            x.append(4, number);
        }
        x.check();
        return x;
    }
}
