/** Promises 6 and 12: the verdicts of analyse, their order, and fault. */
public final class VerdictTest {
    private static final Due DUE = new Due();

    public static void main(String[] args) {
        unsafe();
        wrong();
        disabled();
        everyEdgeCanBeLost();
        notDisabled();
        conflict();
        earlierVerdictsComeFirst();
        faultIsOfTheLatest();
        DUE.end();
    }

    private static void verdict(String net, ClocklessGates x, int verdict, int fault) {
        DUE.answer(net + ": analyse()", verdict, x::analyse);
        DUE.answer(net + ": fault()", fault, x::fault);
        if (verdict != 0) {
            DUE.refusal(net + ": synthesise()", IllegalStateException.class, x::synthesise);
            DUE.refusal(net + ": check()", IllegalStateException.class, x::check);
        }
    }

    private static void edge(ClocklessGates x, int s, boolean rising, int before, int behind) {
        Nets.through(x, before, x.edge(s, rising), behind);
    }

    private static void places(ClocklessGates x, boolean... tokens) {
        for (boolean token : tokens) {
            x.place(token);
        }
    }

    private static void unsafe() {
        ClocklessGates x = Nets.signals(true, true);
        places(x, true, false, true, true);
        edge(x, 0, true, 0, 1);
        edge(x, 0, false, 1, 2);
        verdict("a token on a token", x, 1, 1);
        DUE.answer("a token on a token: states()", 2, x::states);
        ClocklessGates y = Nets.signals(true);
        places(y, true);
        edge(y, 0, true, 0, 0);
        DUE.that("a token put back is safe", y.analyse() != 1);
    }

    private static void wrong() {
        ClocklessGates up = Nets.signals(true);
        places(up, true, false);
        edge(up, 0, true, 0, 1);
        edge(up, 0, true, 1, ClocklessGates.NONE);
        verdict("up twice", up, 2, 1);
        up.signal(true, false);
        edge(up, 1, true, up.place(true), ClocklessGates.NONE);
        verdict("up twice, beside another edge", up, 2, 1);
        DUE.answer("up twice, beside another edge: states()", 4, up::states);
        ClocklessGates down = Nets.signals(true);
        places(down, true);
        edge(down, 0, false, 0, ClocklessGates.NONE);
        verdict("down at first", down, 2, 0);
        ClocklessGates bare = Nets.signals(false);
        edge(bare, 0, true, ClocklessGates.NONE, ClocklessGates.NONE);
        verdict("an edge without places", bare, 2, 1);
    }

    /** Two rising edges that share one token in a state behind the rise of input 0. */
    private static ClocklessGates choice(boolean firstIsInput, boolean secondIsInput) {
        ClocklessGates x = Nets.signals(true, firstIsInput, secondIsInput);
        places(x, true, false);
        edge(x, 0, true, 0, 1);
        edge(x, 1, true, 1, ClocklessGates.NONE);
        edge(x, 2, true, 1, ClocklessGates.NONE);
        return x;
    }

    /** Signal 0 takes the token of a place; signal 1 needs it and puts it back. */
    private static ClocklessGates taker(boolean takerIsInput, boolean readerIsInput) {
        ClocklessGates x = Nets.signals(takerIsInput, readerIsInput);
        places(x, true, true);
        edge(x, 0, true, 0, ClocklessGates.NONE);
        edge(x, 1, true, 0, 0);
        x.arc(1, 1, false);
        return x;
    }

    private static void disabled() {
        verdict("two outputs", choice(false, false), 3, 1);
        verdict("an output and an input", choice(false, true), 3, 1);
        verdict("an input and an output", choice(true, false), 3, 1);
        verdict("an input takes a token that an output only reads", taker(true, false), 3, 0);
        verdict("an output takes a token that an input only reads", taker(false, true), 3, 0);
        verdict("an output takes a token that an output only reads", taker(false, false), 3, 0);
    }

    /** A choice between an edge of each signal and one of each other signal, of inputs and of outputs. */
    private static void everyEdgeCanBeLost() {
        for (int i = 0; i < 5 * 5 * 16; i++) {
            int one = i % 5;
            int other = i / 5 % 5;
            boolean oneIsInput = i / 25 % 2 == 0;
            boolean otherIsInput = i / 50 % 2 == 0;
            boolean oneRises = i / 100 % 2 == 0;
            boolean otherRises = i / 200 % 2 == 0;
            if (one != other) {
                ClocklessGates x = new ClocklessGates();
                for (int s = 0; s < 5; s++) {
                    boolean input = s == one ? oneIsInput : s == other ? otherIsInput : s % 2 == 0;
                    x.signal(input, s == one ? !oneRises : s == other && !otherRises);
                }
                places(x, true);
                edge(x, one, oneRises, 0, ClocklessGates.NONE);
                edge(x, other, otherRises, 0, ClocklessGates.NONE);
                boolean lost = !oneIsInput || !otherIsInput;
                verdict("choice " + i, x, lost ? 3 : 0, lost ? 0 : -1);
            }
        }
    }

    private static void notDisabled() {
        verdict("two inputs", choice(true, true), 0, -1);
        verdict("an input takes a token that an input only reads", taker(true, true), 0, -1);
        ClocklessGates same = Nets.signals(false);
        places(same, true);
        edge(same, 0, true, 0, ClocklessGates.NONE);
        edge(same, 0, true, 0, ClocklessGates.NONE);
        verdict("the same edge twice", same, 0, -1);
        ClocklessGates other = Nets.signals(true, false);
        places(other, true, false);
        edge(other, 0, true, 0, 1);
        edge(other, 1, true, 0, ClocklessGates.NONE);
        edge(other, 1, true, 1, ClocklessGates.NONE);
        DUE.answer("the edge goes on by another transition", 3, other::analyse);
        DUE.answer("but not the other one", 0, other::fault);
        ClocklessGates both = Nets.signals(true, false);
        places(both, true, false, false);
        edge(both, 0, true, 0, 1);
        edge(both, 1, true, 0, 2);
        edge(both, 1, true, 1, ClocklessGates.NONE);
        edge(both, 0, true, 2, ClocklessGates.NONE);
        verdict("both edges go on by other transitions", both, 0, -1);
    }

    private static void conflict() {
        ClocklessGates x = Nets.signals(true, false);
        Nets.ring(x, 1, -1, 2, -2);
        verdict("up and down, then the output", x, 4, 2);
        ClocklessGates twice = Nets.signals(true, true);
        Nets.ring(twice, 1, -1, 2, -2);
        verdict("the same with inputs alone", twice, 0, -1);
        ClocklessGates agree = Nets.signals(true, false);
        Nets.ring(agree, 1, 2, -1, -2, 1, 2, -1, -2);
        verdict("the same code, the same outputs", agree, 0, -1);
        DUE.answer("the same code, the same outputs: states()", 8, agree::states);
    }

    private static void earlierVerdictsComeFirst() {
        ClocklessGates x = choice(false, false);
        x.place(true);
        edge(x, 0, false, 2, ClocklessGates.NONE);
        verdict("wrong before disabled, in a lesser state", x, 2, 0);
        int late = x.place(false);
        x.arc(late, 2, true);
        int full = x.place(true);
        edge(x, 1, false, late, full);
        verdict("unsafe before wrong, though in a later state", x, 1, 3);
        ClocklessGates big = Nets.free(3);
        for (int s = 3; s < 5; s++) {
            big.signal(false, false);
            int first = big.place(true);
            int second = big.place(false);
            int third = big.place(false);
            edge(big, s, true, first, second);
            edge(big, s, false, second, third);
            edge(big, s, false, third, first);
        }
        DUE.answer("wrong, not too big: analyse()", 2, big::analyse);
        DUE.answer("wrong, not too big: states()", 72, big::states);
        ClocklessGates bigger = Nets.signals(false, true, true, true);
        for (int s = 0; s < 4; s++) {
            int first = bigger.place(true);
            int second = bigger.place(false);
            edge(bigger, s, true, first, second);
            edge(bigger, s, false, second, ClocklessGates.NONE);
        }
        edge(bigger, 1, true, 0, bigger.place(true));
        verdict("too big before unsafe", bigger, 5, -1);
    }

    private static void faultIsOfTheLatest() {
        ClocklessGates x = Nets.follower();
        DUE.answer("fault() before analyse", -1, x::fault);
        x.analyse();
        DUE.answer("fault() behind FINE", -1, x::fault);
        DUE.answer("check() without gates", 3, x::check);
        DUE.answer("fault() of it", 1, x::fault);
        x.append(1, 7);
        DUE.answer("fault() is kept by append", 1, x::fault);
        x.strip(1);
        DUE.answer("fault() is kept by strip", 1, x::fault);
        x.synthesise();
        DUE.answer("fault() is kept by synthesise", 1, x::fault);
        DUE.answer("check() of the gates", 0, x::check);
        DUE.answer("fault() of 0", -1, x::fault);
        x.strip(1);
        x.check();
        x.analyse();
        DUE.answer("fault() behind analyse again", -1, x::fault);
        ClocklessGates y = choice(false, false);
        y.analyse();
        DUE.refusal("check() of a net that is not fine", IllegalStateException.class, y::check);
        DUE.answer("fault() is kept by a check that is refused", 1, y::fault);
        y.place(false);
        DUE.answer("fault() behind a new place", -1, y::fault);
    }
}
