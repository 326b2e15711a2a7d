import java.util.function.Consumer;
import java.util.function.Function;
import java.util.function.Supplier;

/**
 * Tells whether a call leaves an object as it was: of two twins one gets the call, then both are looked
 * at in the same way. Each way of looking has twins of its own, since most ways change what they look at,
 * and since an object is used for at most 512 calls.
 */
final class Twins {
    private final Due due;
    private final Supplier<ClocklessGates> maker;

    Twins(Due due, Supplier<ClocklessGates> maker) {
        this.due = due;
        this.maker = maker;
    }

    /** The call is refused by this exception, and changes nothing. */
    void refuse(String call, Class<? extends RuntimeException> want, Consumer<ClocklessGates> refused) {
        keepAll(call, x -> due.refusal(call, want, () -> refused.accept(x)));
    }

    /** The call changes nothing that can be seen. */
    void keepAll(String call, Consumer<ClocklessGates> change) {
        keepGraph(call, change);
        keepGates(call, change);
        compare(call + ", then fault", change, Twins::fault);
        compare(call + ", then check", change, Twins::check);
        compare(call + ", then synthesise", change, Twins::synthesise);
    }

    /** The call leaves the graph, and the net that it is made from. */
    void keepGraph(String call, Consumer<ClocklessGates> change) {
        compare(call + ", then the graph", change, Twins::graph);
        compare(call + ", then analyse", change, Twins::analyse);
        compare(call + ", then more of all", change, Twins::moreOfAll);
        compare(call + ", then arcs before", change, x -> arcs(x, false));
        compare(call + ", then arcs behind", change, x -> arcs(x, true));
    }

    void keepGates(String call, Consumer<ClocklessGates> change) {
        compare(call + ", then the gates", change, Twins::gates);
    }

    void compare(String name, Consumer<ClocklessGates> change, Function<ClocklessGates, String> look) {
        ClocklessGates changed = maker.get();
        change.accept(changed);
        due.outcome(name, look.apply(maker.get()), look.apply(changed));
    }

    static String graph(ClocklessGates x) {
        String count = Due.outcomeOf(x::states);
        StringBuilder seen = new StringBuilder(count);
        int limit = Character.isDigit(count.charAt(0)) ? Integer.parseInt(count) : 0;
        for (int i = 0; i <= limit; i++) {
            int k = i;
            seen.append(' ').append(Due.outcomeOf(() -> x.code(k)));
            seen.append('/').append(Due.outcomeOf(() -> x.marking(k)));
            seen.append('/').append(Due.outcomeOf(() -> x.found(k)));
            seen.append('/').append(Due.outcomeOf(() -> x.excited(k)));
        }
        return seen.toString();
    }

    static String gates(ClocklessGates x) {
        StringBuilder seen = new StringBuilder();
        for (int i = 0; i <= 5; i++) {
            int s = i;
            seen.append(" | ").append(Due.outcomeOf(() -> x.products(s)));
            for (int j = 0; j <= 8; j++) {
                int k = j;
                seen.append(' ').append(Due.outcomeOf(() -> x.product(s, k)));
            }
            for (int j = 0; j <= 32; j++) {
                int code = j;
                seen.append(',').append(Due.outcomeOf(() -> x.value(s, code)));
            }
        }
        return seen.toString();
    }

    static String fault(ClocklessGates x) {
        return Due.outcomeOf(x::fault);
    }

    static String check(ClocklessGates x) {
        return Due.outcomeOf(x::check) + " at " + fault(x);
    }

    static String synthesise(ClocklessGates x) {
        return Due.outcomeOf(x::synthesise) + " at " + fault(x) + gates(x);
    }

    static String analyse(ClocklessGates x) {
        return Due.outcomeOf(x::analyse) + " at " + fault(x) + ": " + graph(x);
    }

    /** The numbers that the next ones get tell how many there were. */
    static String moreOfAll(ClocklessGates x) {
        return Due.outcomeOf(() -> x.place(true)) + " " + Due.outcomeOf(() -> x.signal(false, true)) + " "
                + Due.outcomeOf(() -> x.edge(0, true)) + ": " + analyse(x);
    }

    /** Which arcs are refused tells which ones there were. */
    static String arcs(ClocklessGates x, boolean behind) {
        StringBuilder seen = new StringBuilder();
        for (int i = 0; i < 16; i++) {
            for (int j = 0; j < 14; j++) {
                int p = i;
                int t = j;
                seen.append(' ').append(Due.outcomeOf(Due.asSupplier(() -> x.arc(p, t, behind))));
            }
        }
        return seen.toString();
    }
}
