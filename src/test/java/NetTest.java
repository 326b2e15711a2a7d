/** Promises 1 to 5: a new object, signal, edge, place, arc. */
public final class NetTest {
    private static final Due DUE = new Due();

    public static void main(String[] args) {
        newObjectIsEmpty();
        signalsAreNumberedAndLimited();
        edgesAreNumberedAndLimited();
        placesAreNumberedAndLimited();
        arcsAreRefusedWhenWrong();
        arcsWorkInBothDirections();
        addingDiscardsAll();
        refusedAddingDiscardsNothing();
        DUE.end();
    }

    private static void newObjectIsEmpty() {
        ClocklessGates x = new ClocklessGates();
        DUE.answer("new: NONE", -1, () -> ClocklessGates.NONE);
        DUE.answer("new: fault()", -1, x::fault);
        DUE.refusal("new: states()", IllegalStateException.class, x::states);
        DUE.refusal("new: code(0)", IllegalStateException.class, () -> x.code(0));
        DUE.refusal("new: synthesise()", IllegalStateException.class, x::synthesise);
        DUE.refusal("new: check()", IllegalStateException.class, x::check);
        DUE.refusal("new: edge(0)", IndexOutOfBoundsException.class, () -> x.edge(0, true));
        DUE.refusal("new: arc(0, 0)", IndexOutOfBoundsException.class, () -> x.arc(0, 0, true));
        DUE.refusal("new: products(0)", IndexOutOfBoundsException.class, () -> x.products(0));
        DUE.refusal("new: product(0, 0)", IndexOutOfBoundsException.class, () -> x.product(0, 0));
        DUE.refusal("new: append(0, 0)", IndexOutOfBoundsException.class, () -> x.append(0, 0));
        DUE.refusal("new: strip(0)", IndexOutOfBoundsException.class, () -> x.strip(0));
        DUE.refusal("new: value(0, 0)", IndexOutOfBoundsException.class, () -> x.value(0, 0));
        DUE.answer("new: analyse()", 0, x::analyse);
        DUE.answer("new: states() behind it", 1, x::states);
        DUE.answer("new: marking(0)", 0, () -> x.marking(0));
        DUE.answer("new: synthesise() behind it", 0, x::synthesise);
        DUE.answer("new: check() behind it", 0, x::check);
    }

    private static void signalsAreNumberedAndLimited() {
        ClocklessGates x = new ClocklessGates();
        for (int s = 0; s < 5; s++) {
            int number = s;
            DUE.answer("signal " + s, s, () -> x.signal(number % 2 == 0, number > 2));
        }
        DUE.refusal("signal 5", IllegalStateException.class, () -> x.signal(true, true));
        x.analyse();
        DUE.answer("code(0) of signals 3 and 4 high", 24, () -> x.code(0));
        DUE.refusal("append to input 0", IllegalArgumentException.class, () -> x.append(0, 0));
        DUE.answer("append to output 1", 0, () -> x.append(1, 242));
    }

    private static void edgesAreNumberedAndLimited() {
        ClocklessGates x = new ClocklessGates();
        x.signal(true, false);
        DUE.refusal("edge(-1)", IndexOutOfBoundsException.class, () -> x.edge(-1, true));
        DUE.refusal("edge(1)", IndexOutOfBoundsException.class, () -> x.edge(1, true));
        DUE.refusal("edge(min)", IndexOutOfBoundsException.class, () -> x.edge(Integer.MIN_VALUE, true));
        for (int t = 0; t < 14; t++) {
            DUE.answer("edge " + t, t, () -> x.edge(0, true));
        }
        DUE.refusal("edge 14", IllegalStateException.class, () -> x.edge(0, true));
        DUE.refusal("edge 14 of no signal", IndexOutOfBoundsException.class, () -> x.edge(1, true));
    }

    private static void placesAreNumberedAndLimited() {
        ClocklessGates x = new ClocklessGates();
        for (int p = 0; p < 16; p++) {
            int number = p;
            DUE.answer("place " + p, p, () -> x.place(number == 0 || number == 15));
        }
        DUE.refusal("place 16", IllegalStateException.class, () -> x.place(false));
        x.analyse();
        DUE.answer("marking(0) of places 0 and 15", 32769, () -> x.marking(0));
    }

    private static void arcsAreRefusedWhenWrong() {
        ClocklessGates x = new ClocklessGates();
        x.signal(false, false);
        x.edge(0, true);
        x.place(true);
        DUE.refusal("arc(-1, 0)", IndexOutOfBoundsException.class, () -> x.arc(-1, 0, false));
        DUE.refusal("arc(1, 0)", IndexOutOfBoundsException.class, () -> x.arc(1, 0, false));
        DUE.refusal("arc(0, -1)", IndexOutOfBoundsException.class, () -> x.arc(0, -1, false));
        DUE.refusal("arc(0, 1)", IndexOutOfBoundsException.class, () -> x.arc(0, 1, false));
        DUE.does("arc(0, 0) before", () -> x.arc(0, 0, false));
        DUE.refusal("arc(0, 0) before again", IllegalArgumentException.class, () -> x.arc(0, 0, false));
        DUE.does("arc(0, 0) behind", () -> x.arc(0, 0, true));
        DUE.refusal("arc(0, 0) behind again", IllegalArgumentException.class, () -> x.arc(0, 0, true));
    }

    private static void arcsWorkInBothDirections() {
        ClocklessGates x = new ClocklessGates();
        x.signal(true, false);
        x.edge(0, true);
        x.place(true);
        x.place(true);
        x.place(false);
        x.arc(0, 0, false);
        x.arc(1, 0, false);
        x.arc(1, 0, true);
        x.arc(2, 0, true);
        DUE.answer("analyse() of one edge", 0, x::analyse);
        DUE.answer("marking(0): places 0 and 1", 3, () -> x.marking(0));
        DUE.answer("marking(1): places 1 and 2", 6, () -> x.marking(1));
    }

    private static ClocklessGates analysed() {
        ClocklessGates x = Nets.follower();
        x.analyse();
        x.synthesise();
        x.append(1, 8);
        x.check();
        DUE.answer("fault() of a gate that acts too early", 0, x::fault);
        return x;
    }

    private static void addingDiscardsAll() {
        for (int kind = 0; kind < 4; kind++) {
            ClocklessGates x = analysed();
            switch (kind) {
                case 0 -> x.signal(true, false);
                case 1 -> x.edge(0, true);
                case 2 -> x.place(false);
                default -> x.arc(0, 1, false);
            }
            String added = "added " + kind + ": ";
            DUE.refusal(added + "states()", IllegalStateException.class, x::states);
            DUE.refusal(added + "code(0)", IllegalStateException.class, () -> x.code(0));
            DUE.refusal(added + "marking(0)", IllegalStateException.class, () -> x.marking(0));
            DUE.refusal(added + "found(0)", IllegalStateException.class, () -> x.found(0));
            DUE.refusal(added + "excited(0)", IllegalStateException.class, () -> x.excited(0));
            DUE.refusal(added + "synthesise()", IllegalStateException.class, x::synthesise);
            DUE.refusal(added + "check()", IllegalStateException.class, x::check);
            DUE.answer(added + "fault()", -1, x::fault);
            DUE.answer(added + "products(1)", 0, () -> x.products(1));
            DUE.answer(added + "value(1, 1)", 0, () -> x.value(1, 1));
        }
    }

    private static void refusedAddingDiscardsNothing() {
        ClocklessGates x = analysed();
        DUE.refusal("edge of no signal", IndexOutOfBoundsException.class, () -> x.edge(2, true));
        DUE.refusal("arc of no place", IndexOutOfBoundsException.class, () -> x.arc(4, 0, true));
        DUE.refusal("arc twice", IllegalArgumentException.class, () -> x.arc(0, 0, false));
        DUE.answer("refused: states()", 4, x::states);
        DUE.answer("refused: products(1)", 2, () -> x.products(1));
        DUE.answer("refused: fault()", 0, x::fault);
        DUE.answer("refused: check()", 2, x::check);
        ClocklessGates full = new ClocklessGates();
        for (int i = 0; i < 16; i++) {
            full.place(false);
            if (i < 5) {
                full.signal(false, false);
            }
            if (i >= 2) {
                full.edge(0, true);
            }
        }
        full.analyse();
        DUE.refusal("a sixth signal", IllegalStateException.class, () -> full.signal(true, true));
        DUE.refusal("a fifteenth edge", IllegalStateException.class, () -> full.edge(0, true));
        DUE.refusal("a seventeenth place", IllegalStateException.class, () -> full.place(true));
        DUE.answer("refused: states() of the full net", 2, full::states);
    }
}
