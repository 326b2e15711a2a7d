import java.util.ArrayList;
import java.util.HashSet;
import java.util.List;
import java.util.Set;
import java.util.TreeSet;

/**
 * The document's sentences one by one, without regard to speed or room: what ClocklessGates is
 * compared with. It shares no code and no representation with it.
 */
final class PlainModel {
    record Edge(int signal, boolean rising) {
    }

    record State(Set<Integer> tokens, List<Boolean> levels) {
    }

    private final List<Boolean> inputs = new ArrayList<>();
    private final List<Boolean> levels = new ArrayList<>();
    private final List<Edge> edges = new ArrayList<>();
    private final List<Set<Integer>> before = new ArrayList<>();
    private final List<Set<Integer>> behind = new ArrayList<>();
    private final List<Boolean> tokens = new ArrayList<>();
    private final List<List<Integer>> gates = new ArrayList<>();
    private List<State> graph = null;
    private List<Integer> origins = null;
    private int verdict = -1;
    private int fault = -1;
    /** How often a least sum was told from another one by its digits, and by its numbers. */
    int toldByDigits = 0;
    int toldByNumbers = 0;

    private void discard() {
        graph = null;
        origins = null;
        verdict = -1;
        fault = -1;
        for (List<Integer> gate : gates) {
            gate.clear();
        }
    }

    int signal(boolean input, boolean high) {
        if (inputs.size() == 5) {
            throw new IllegalStateException();
        }
        discard();
        inputs.add(input);
        levels.add(high);
        gates.add(new ArrayList<>());
        return inputs.size() - 1;
    }

    private void needSignal(int s) {
        if (s < 0 || s >= inputs.size()) {
            throw new IndexOutOfBoundsException();
        }
    }

    int edge(int s, boolean rising) {
        needSignal(s);
        if (edges.size() == 14) {
            throw new IllegalStateException();
        }
        discard();
        edges.add(new Edge(s, rising));
        before.add(new HashSet<>());
        behind.add(new HashSet<>());
        return edges.size() - 1;
    }

    int place(boolean token) {
        if (tokens.size() == 16) {
            throw new IllegalStateException();
        }
        discard();
        tokens.add(token);
        return tokens.size() - 1;
    }

    void arc(int p, int t, boolean isBehind) {
        if (p < 0 || p >= tokens.size() || t < 0 || t >= edges.size()) {
            throw new IndexOutOfBoundsException();
        }
        Set<Integer> places = (isBehind ? behind : before).get(t);
        if (places.contains(p)) {
            throw new IllegalArgumentException();
        }
        discard();
        places.add(p);
    }

    private boolean enabled(State state, int t) {
        return state.tokens().containsAll(before.get(t));
    }

    private boolean safely(State state, int t) {
        for (int p : behind.get(t)) {
            if (!before.get(t).contains(p) && state.tokens().contains(p)) {
                return false;
            }
        }
        return true;
    }

    private boolean rightly(State state, int t) {
        return edges.get(t).rising() != state.levels().get(edges.get(t).signal());
    }

    private State fire(State state, int t) {
        Set<Integer> newTokens = new TreeSet<>(state.tokens());
        newTokens.removeAll(before.get(t));
        newTokens.addAll(behind.get(t));
        List<Boolean> newLevels = new ArrayList<>(state.levels());
        newLevels.set(edges.get(t).signal(), edges.get(t).rising());
        return new State(newTokens, newLevels);
    }

    private State first() {
        Set<Integer> marked = new TreeSet<>();
        for (int p = 0; p < tokens.size(); p++) {
            if (tokens.get(p)) {
                marked.add(p);
            }
        }
        return new State(marked, new ArrayList<>(levels));
    }

    int analyse() {
        discard();
        graph = new ArrayList<>(List.of(first()));
        origins = new ArrayList<>(List.of(-1));
        for (int k = 0; k < graph.size() && graph.size() <= 80; k++) {
            for (int t = 0; t < edges.size(); t++) {
                State state = graph.get(k);
                if (enabled(state, t) && safely(state, t) && rightly(state, t) && !graph.contains(fire(state, t))) {
                    graph.add(fire(state, t));
                    origins.add(100 * k + t);
                }
            }
        }
        verdict = judge();
        if (verdict == 5) {
            graph = null;
            origins = null;
        }
        return verdict;
    }

    private int judge() {
        if (graph.size() > 80) {
            return 5;
        }
        for (int v = 1; v <= 4; v++) {
            for (int k = 0; k < graph.size(); k++) {
                if (fits(v, k)) {
                    fault = k;
                    return v;
                }
            }
        }
        return 0;
    }

    private boolean fits(int v, int k) {
        State state = graph.get(k);
        if (v == 4) {
            for (int j = 0; j < k; j++) {
                if (code(j) == code(k) && excited(j) != excited(k)) {
                    return true;
                }
            }
            return false;
        }
        for (int t = 0; t < edges.size(); t++) {
            if (enabled(state, t) && v == 1 && !safely(state, t)) {
                return true;
            }
            if (enabled(state, t) && v == 2 && !rightly(state, t)) {
                return true;
            }
            for (int u = 0; v == 3 && u < edges.size(); u++) {
                if (u != t && enabled(state, t) && enabled(state, u) && loses(state, t, u)) {
                    return true;
                }
            }
        }
        return false;
    }

    private boolean loses(State state, int t, int u) {
        if (inputs.get(edges.get(t).signal()) && inputs.get(edges.get(u).signal())) {
            return false;
        }
        if (edges.get(t).equals(edges.get(u))) {
            return false;
        }
        State after = fire(state, t);
        for (int w = 0; w < edges.size(); w++) {
            if (edges.get(w).equals(edges.get(u)) && enabled(after, w)) {
                return false;
            }
        }
        return true;
    }

    int states() {
        if (graph == null) {
            throw new IllegalStateException();
        }
        return graph.size();
    }

    private State state(int k) {
        int count = states();
        if (k < 0 || k >= count) {
            throw new IndexOutOfBoundsException();
        }
        return graph.get(k);
    }

    int code(int k) {
        return codeOf(state(k));
    }

    private static int codeOf(State state) {
        int sum = 0;
        for (int s = 0; s < state.levels().size(); s++) {
            sum += state.levels().get(s) ? (int) Math.pow(2, s) : 0;
        }
        return sum;
    }

    int marking(int k) {
        int sum = 0;
        for (int p : state(k).tokens()) {
            sum += (int) Math.pow(2, p);
        }
        return sum;
    }

    int found(int k) {
        state(k);
        return origins.get(k);
    }

    private boolean isExcited(State state, int s) {
        for (int t = 0; t < edges.size(); t++) {
            if (edges.get(t).signal() == s && enabled(state, t)) {
                return true;
            }
        }
        return false;
    }

    int excited(int k) {
        int sum = 0;
        State state = state(k);
        for (int s = 0; s < inputs.size(); s++) {
            sum += !inputs.get(s) && isExcited(state, s) ? (int) Math.pow(2, s) : 0;
        }
        return sum;
    }

    int fault() {
        return fault;
    }

    private void needFine() {
        if (verdict != 0) {
            throw new IllegalStateException();
        }
    }

    int synthesise() {
        needFine();
        List<List<Integer>> sums = new ArrayList<>();
        int total = 0;
        for (int s = 0; s < inputs.size(); s++) {
            sums.add(inputs.get(s) ? List.of() : leastSum(s));
            total += sums.get(s).size();
        }
        for (int s = 0; s < inputs.size(); s++) {
            gates.get(s).clear();
            gates.get(s).addAll(sums.get(s));
        }
        return total;
    }

    private List<Integer> leastSum(int s) {
        Set<Integer> on = new TreeSet<>();
        Set<Integer> off = new TreeSet<>();
        for (State state : graph) {
            boolean next = isExcited(state, s) != state.levels().get(s);
            (next ? on : off).add(codeOf(state));
        }
        List<Integer> primes = new ArrayList<>();
        for (int number = 0; number < Math.pow(3, inputs.size()); number++) {
            if (isPrime(number, off)) {
                primes.add(number);
            }
        }
        for (int size = 0; size <= 8; size++) {
            List<List<Integer>> sums = new ArrayList<>();
            collectSums(primes, 0, size, on, new ArrayList<>(), sums);
            if (!sums.isEmpty()) {
                return leastOf(sums);
            }
        }
        throw new UnsupportedOperationException();
    }

    private boolean isPrime(int number, Set<Integer> off) {
        if (coversOne(number, off)) {
            return false;
        }
        for (int s = 0; s < inputs.size(); s++) {
            int digit = digit(number, s);
            if (digit != 2 && !coversOne(number + (2 - digit) * (int) Math.pow(3, s), off)) {
                return false;
            }
        }
        return true;
    }

    private static int digit(int number, int s) {
        return number / (int) Math.pow(3, s) % 3;
    }

    private boolean coversOne(int number, Set<Integer> codes) {
        for (int code : codes) {
            if (covers(number, code)) {
                return true;
            }
        }
        return false;
    }

    private boolean covers(int number, int code) {
        for (int s = 0; s < inputs.size(); s++) {
            int digit = digit(number, s);
            if (digit != 2 && digit != code / (int) Math.pow(2, s) % 2) {
                return false;
            }
        }
        return true;
    }

    /** All sets of so many primes that cover the codes, with rising numbers, in lexical order. */
    private void collectSums(List<Integer> primes, int from, int size, Set<Integer> open, List<Integer> taken,
            List<List<Integer>> sums) {
        if (size == 0) {
            if (open.isEmpty()) {
                sums.add(new ArrayList<>(taken));
            }
            return;
        }
        for (int i = from; i < primes.size(); i++) {
            int number = primes.get(i);
            Set<Integer> rest = new TreeSet<>(open);
            rest.removeIf(code -> covers(number, code));
            taken.add(number);
            collectSums(primes, i + 1, size - 1, rest, taken, sums);
            taken.remove(taken.size() - 1);
        }
    }

    private List<Integer> leastOf(List<List<Integer>> sums) {
        int fewest = Integer.MAX_VALUE;
        int most = 0;
        for (List<Integer> sum : sums) {
            fewest = Math.min(fewest, fixedDigits(sum));
            most = Math.max(most, fixedDigits(sum));
        }
        List<Integer> least = null;
        int equals = 0;
        for (List<Integer> sum : sums) {
            if (fixedDigits(sum) == fewest) {
                least = least == null ? sum : least;
                equals++;
            }
        }
        toldByDigits += most > fewest ? 1 : 0;
        toldByNumbers += equals > 1 ? 1 : 0;
        return least;
    }

    private int fixedDigits(List<Integer> sum) {
        int count = 0;
        for (int number : sum) {
            for (int s = 0; s < inputs.size(); s++) {
                count += digit(number, s) != 2 ? 1 : 0;
            }
        }
        return count;
    }

    int products(int s) {
        needSignal(s);
        return gates.get(s).size();
    }

    int product(int s, int k) {
        needSignal(s);
        return gates.get(s).get(k);
    }

    int append(int s, int number) {
        needSignal(s);
        if (inputs.get(s) || number < 0 || number >= Math.pow(3, inputs.size())) {
            throw new IllegalArgumentException();
        }
        if (gates.get(s).size() == 8) {
            throw new IllegalStateException();
        }
        gates.get(s).add(number);
        return gates.get(s).size() - 1;
    }

    void strip(int s) {
        needSignal(s);
        gates.get(s).clear();
    }

    int value(int s, int code) {
        needSignal(s);
        if (code < 0 || code >= Math.pow(2, inputs.size())) {
            throw new IndexOutOfBoundsException();
        }
        for (int number : gates.get(s)) {
            if (covers(number, code)) {
                return 1;
            }
        }
        return 0;
    }

    private boolean says(int s, State state) {
        return value(s, codeOf(state)) == 1;
    }

    private boolean acts(int s, State state) {
        return says(s, state) != state.levels().get(s);
    }

    private boolean circuitFires(State state, int t) {
        int s = edges.get(t).signal();
        return enabled(state, t) && (inputs.get(s) || says(s, state) == edges.get(t).rising());
    }

    int check() {
        needFine();
        Set<State> come = new HashSet<>();
        List<State> open = new ArrayList<>(List.of(graph.get(0)));
        while (!open.isEmpty()) {
            State state = open.remove(open.size() - 1);
            if (come.add(state)) {
                for (int t = 0; t < edges.size(); t++) {
                    if (circuitFires(state, t)) {
                        open.add(fire(state, t));
                    }
                }
            }
        }
        for (int answer = 1; answer <= 3; answer++) {
            for (int k = 0; k < graph.size(); k++) {
                if (come.contains(graph.get(k)) && answers(answer, graph.get(k))) {
                    fault = k;
                    return answer;
                }
            }
        }
        fault = -1;
        return 0;
    }

    private boolean answers(int answer, State state) {
        for (int s = 0; s < inputs.size(); s++) {
            if (!inputs.get(s)) {
                boolean fits = switch (answer) {
                    case 1 -> acts(s, state) && stops(s, state);
                    case 2 -> acts(s, state) && !follows(s, state);
                    default -> isExcited(state, s) && !acts(s, state);
                };
                if (fits) {
                    return true;
                }
            }
        }
        return false;
    }

    private boolean stops(int s, State state) {
        for (int t = 0; t < edges.size(); t++) {
            if (edges.get(t).signal() != s && circuitFires(state, t) && !acts(s, fire(state, t))) {
                return true;
            }
        }
        return false;
    }

    private boolean follows(int s, State state) {
        for (int t = 0; t < edges.size(); t++) {
            if (edges.get(t).signal() == s && edges.get(t).rising() == says(s, state) && enabled(state, t)) {
                return true;
            }
        }
        return false;
    }
}
