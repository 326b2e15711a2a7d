/** Promise 19: check explores the circuit of all gates; promise 12 for its faults. */
public final class CheckTest {
    private static final Due DUE = new Due();

    public static void main(String[] args) {
        goodCircuitsPass();
        missing();
        unexpected();
        hazardOfAnInput();
        hazardOfAnotherOutput();
        statesNotComeToDoNotCount();
        checkChangesNothingElse();
        refusedWithoutFine();
        DUE.end();
    }

    private static void check(String circuit, ClocklessGates x, int answer, int fault) {
        DUE.answer(circuit + ": check()", answer, x::check);
        DUE.answer(circuit + ": fault()", fault, x::fault);
    }

    private static void gate(ClocklessGates x, int s, int... numbers) {
        x.strip(s);
        for (int number : numbers) {
            x.append(s, number);
        }
    }

    private static void goodCircuitsPass() {
        ClocklessGates x = Nets.follower();
        x.analyse();
        gate(x, 1, 7);
        check("follower", x, 0, -1);
        gate(x, 1, 1, 4);
        check("follower of two products", x, 0, -1);
        ClocklessGates y = Nets.join();
        y.analyse();
        y.synthesise();
        check("join", y, 0, -1);
        ClocklessGates none = Nets.free(2);
        none.analyse();
        check("no outputs", none, 0, -1);
    }

    private static void missing() {
        ClocklessGates x = Nets.follower();
        x.analyse();
        check("no product", x, 3, 1);
        gate(x, 1, 7, 5);
        check("the output holds itself up", x, 3, 3);
    }

    private static void unexpected() {
        ClocklessGates x = Nets.follower();
        x.analyse();
        gate(x, 1, 8);
        check("always high", x, 2, 0);
        gate(x, 1, 1);
        check("falls too early", x, 2, 2);
        ClocklessGates still = new ClocklessGates();
        still.signal(false, true);
        still.analyse();
        check("a high output without a product", still, 2, 0);
        gate(still, 0, 1);
        check("a high output that holds itself", still, 0, -1);
    }

    private static void hazardOfAnInput() {
        ClocklessGates x = Nets.join();
        x.analyse();
        gate(x, 2, 19);
        check("acts until the other input rises", x, 1, 1);
        gate(x, 2, 21);
        check("acts until the first input rises", x, 1, 2);
        gate(x, 2, 22, 25);
        check("acts early but goes on acting", x, 2, 1);
        gate(x, 2, 14, 16, 22, 0);
        check("acts at first until an input rises", x, 1, 0);
    }

    /** Outputs 1 and 2 rise behind input 0, in either order. */
    private static ClocklessGates fork() {
        ClocklessGates x = new ClocklessGates();
        x.signal(true, false);
        x.signal(false, false);
        x.signal(false, false);
        x.place(true);
        x.place(false);
        x.place(false);
        Nets.through(x, 0, x.edge(0, true), 1);
        x.arc(2, 0, true);
        Nets.through(x, 1, x.edge(1, true), ClocklessGates.NONE);
        Nets.through(x, 2, x.edge(2, true), ClocklessGates.NONE);
        DUE.answer("fork: analyse()", 0, x::analyse);
        return x;
    }

    private static void hazardOfAnotherOutput() {
        ClocklessGates x = fork();
        gate(x, 1, 25);
        gate(x, 2, 25);
        check("fork", x, 0, -1);
        gate(x, 2, 19, 17);
        check("output 2 acts until output 1 rises", x, 1, 1);
        gate(x, 1);
        check("output 1 does not rise", x, 3, 1);
    }

    private static void statesNotComeToDoNotCount() {
        ClocklessGates x = new ClocklessGates();
        x.signal(true, false);
        x.signal(false, false);
        x.signal(false, false);
        Nets.ring(x, 1, 2, 3, -1, -2, -3);
        x.analyse();
        gate(x, 1, 25);
        gate(x, 2, 12);
        check("output 2 does not rise", x, 3, 2);
        gate(x, 2, 12, 4);
        check("output 2 acts again until the input falls", x, 1, 3);
        gate(x, 1);
        check("output 1 never rises", x, 3, 1);
    }

    private static void checkChangesNothingElse() {
        ClocklessGates x = Nets.follower();
        x.analyse();
        gate(x, 1, 8);
        check("once", x, 2, 0);
        check("twice", x, 2, 0);
        DUE.answer("products(1) behind check", 1, () -> x.products(1));
        DUE.answer("states() behind check", 4, x::states);
        DUE.answer("synthesise() behind check", 1, x::synthesise);
        check("three times", x, 0, -1);
    }

    private static void refusedWithoutFine() {
        ClocklessGates x = Nets.follower();
        x.append(1, 7);
        DUE.refusal("no verdict: check()", IllegalStateException.class, x::check);
        x.analyse();
        x.synthesise();
        x.place(false);
        DUE.refusal("a place more: check()", IllegalStateException.class, x::check);
        x.analyse();
        DUE.answer("analysed again: check()", 3, x::check);
        ClocklessGates y = new ClocklessGates();
        y.signal(false, true);
        y.edge(0, true);
        DUE.answer("wrong: analyse()", 2, y::analyse);
        DUE.refusal("wrong: check()", IllegalStateException.class, y::check);
        DUE.answer("wrong: fault()", 0, y::fault);
    }
}
