/** Nets that several tests use. */
final class Nets {
    private Nets() {
    }

    /** Arcs from a place (or NONE) to a transition and on to a place (or NONE). */
    static void through(ClocklessGates x, int before, int transition, int behind) {
        if (before != ClocklessGates.NONE) {
            x.arc(before, transition, false);
        }
        if (behind != ClocklessGates.NONE) {
            x.arc(behind, transition, true);
        }
    }

    /** A ring of edges, a place before each, the token before the first; s + 1: s rises, -s - 1: it falls. */
    static void ring(ClocklessGates x, int... edges) {
        int first = x.place(true);
        int here = first;
        for (int i = 0; i < edges.length; i++) {
            int t = x.edge(Math.abs(edges[i]) - 1, edges[i] > 0);
            int next = i + 1 < edges.length ? x.place(false) : first;
            through(x, here, t, next);
            here = next;
        }
    }

    /** Input 0 and output 1 that follows it: the states have the codes 0, 1, 3, 2. */
    static ClocklessGates follower() {
        ClocklessGates x = new ClocklessGates();
        x.signal(true, false);
        x.signal(false, false);
        ring(x, 1, 2, -1, -2);
        return x;
    }

    /** Inputs 0 and 1, output 2 that rises behind both and falls behind both. */
    static ClocklessGates join() {
        ClocklessGates x = new ClocklessGates();
        x.signal(true, false);
        x.signal(true, false);
        x.signal(false, false);
        for (int i = 0; i < 6; i++) {
            x.edge(i % 3, i < 3);
        }
        for (int i = 0; i < 8; i++) {
            x.place(i < 2);
        }
        through(x, 0, 0, 2);
        through(x, 1, 1, 3);
        through(x, 2, 2, 4);
        through(x, 3, 2, 5);
        through(x, 4, 3, 6);
        through(x, 5, 4, 7);
        through(x, 6, 5, 0);
        through(x, 7, 5, 1);
        return x;
    }

    /**
     * Inputs 0 .. 3 that toggle one at a time, and output 4 that answers each toggle, so that it is
     * their parity. With a stop the output does not fall again when all inputs are low: then the
     * least sum has a ninth product.
     */
    static ClocklessGates parity(boolean stop) {
        ClocklessGates x = new ClocklessGates();
        for (int s = 0; s < 4; s++) {
            x.signal(true, false);
        }
        x.signal(false, false);
        for (int i = 0; i < 10; i++) {
            x.place(i % 2 == 0);
        }
        int inputsTurn = x.place(true);
        int outputsTurn = x.place(false);
        for (int s = 0; s < 4; s++) {
            addToggle(x, s, true, inputsTurn, outputsTurn);
            addToggle(x, s, false, inputsTurn, outputsTurn);
        }
        addToggle(x, 4, true, outputsTurn, inputsTurn);
        for (int s = 0; s < (stop ? 4 : 1); s++) {
            int fall = addToggle(x, 4, false, outputsTurn, inputsTurn);
            if (stop) {
                through(x, 2 * s + 1, fall, 2 * s + 1);
            }
        }
        return x;
    }

    /** Place 2s has a token while signal s is low, place 2s + 1 while it is high. */
    private static int addToggle(ClocklessGates x, int s, boolean rising, int turn, int nextTurn) {
        int t = x.edge(s, rising);
        through(x, 2 * s + (rising ? 0 : 1), t, 2 * s + (rising ? 1 : 0));
        through(x, turn, t, nextTurn);
        return t;
    }

    /** n input signals that rise and fall on their own: 2^n states. */
    static ClocklessGates free(int n) {
        ClocklessGates x = new ClocklessGates();
        for (int s = 0; s < n; s++) {
            x.signal(true, false);
            ring(x, s + 1, -s - 1);
        }
        return x;
    }
}
