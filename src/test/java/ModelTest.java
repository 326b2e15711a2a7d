import java.util.Arrays;
import java.util.Random;
import java.util.function.IntSupplier;

/** Many nets and circuits, each call compared with the plain model (all promises, 1 to 19). */
public final class ModelTest {
    private static final int NETS = 10000;
    private static final int CALLS_OF_AN_OBJECT = 512;
    private final Due due = new Due();
    private final int[] verdictsSeen = new int[6];
    private final int[] answersSeen = new int[4];
    private int toldByDigits = 0;
    private int toldByNumbers = 0;
    private int refusedSums = 0;
    private final boolean[] highAtFirst = new boolean[5];
    private Random random;
    private int seed;
    private int calls;
    private ClocklessGates x;
    private PlainModel y;
    private int signals;
    private int edges;
    private int places;

    public static void main(String[] args) {
        new ModelTest().run();
    }

    private void run() {
        for (seed = 0; seed < NETS; seed++) {
            random = new Random(seed);
            x = new ClocklessGates();
            y = new PlainModel();
            calls = 0;
            signals = 0;
            edges = 0;
            places = 0;
            makeNet(seed % 6);
            useNet();
            if (random.nextInt(4) == 0) {
                changeNet();
                useNet();
            }
            lookAtRest();
            toldByDigits += y.toldByDigits;
            toldByNumbers += y.toldByNumbers;
        }
        for (int v = 0; v <= 5; v++) {
            due.that("verdict " + v + " is seen often, " + verdictsSeen[v], verdictsSeen[v] >= 50);
        }
        for (int a = 0; a <= 3; a++) {
            due.that("answer " + a + " is seen often, " + answersSeen[a], answersSeen[a] >= 50);
        }
        due.that("sums told by digits are seen, " + toldByDigits, toldByDigits >= 10);
        due.that("sums told by numbers are seen, " + toldByNumbers, toldByNumbers >= 10);
        due.that("sums of more than 8 products are seen, " + refusedSums, refusedSums >= 10);
        System.out.println("verdicts " + Arrays.toString(verdictsSeen) + ", answers " + Arrays.toString(answersSeen)
                + ", told by digits " + toldByDigits + ", by numbers " + toldByNumbers + ", refused " + refusedSums);
        due.end();
    }

    /** What an object answers after its 512th call is free, so that it is not asked any more. */
    private String same(String call, IntSupplier got, IntSupplier want) {
        String outcome = Due.outcomeOf(want);
        calls++;
        if (calls <= CALLS_OF_AN_OBJECT) {
            due.outcome("seed " + seed + ": " + call, outcome, Due.outcomeOf(got));
        }
        return outcome;
    }

    private void signal(boolean input, boolean high) {
        if (signals < 5) {
            highAtFirst[signals] = high;
        }
        same("signal", () -> x.signal(input, high), () -> y.signal(input, high));
        signals = Math.min(5, signals + 1);
    }

    private void edge(int s, boolean rising) {
        same("edge", () -> x.edge(s, rising), () -> y.edge(s, rising));
        edges = s < 0 || s >= signals ? edges : Math.min(14, edges + 1);
    }

    private void place(boolean token) {
        same("place", () -> x.place(token), () -> y.place(token));
        places = Math.min(16, places + 1);
    }

    private void arc(int p, int t, boolean behind) {
        same("arc", Due.asSupplier(() -> x.arc(p, t, behind)), Due.asSupplier(() -> y.arc(p, t, behind)));
    }

    private void makeNet(int kind) {
        int n = 1 + random.nextInt(5);
        switch (kind) {
            case 0 -> makeWildNet(n);
            case 1 -> makeTiedRings(n);
            case 2 -> makeLongRings(n);
            case 3 -> makeToggles(n);
            case 4 -> makeWalks(n);
            default -> makeParity();
        }
    }

    private void makeSignals(int n) {
        int inputs = random.nextInt(4);
        for (int s = 0; s < n; s++) {
            signal(random.nextInt(4) < inputs, random.nextInt(3) == 0);
        }
    }

    /** Anything at all. */
    private void makeWildNet(int n) {
        makeSignals(n);
        int edgesMeant = random.nextInt(16);
        for (int i = 0; i < edgesMeant; i++) {
            edge(random.nextInt(n + 1), random.nextBoolean());
        }
        int placesMeant = random.nextInt(18);
        for (int i = 0; i < placesMeant; i++) {
            place(random.nextInt(3) == 0);
        }
        int arcsMeant = random.nextInt(3 * placesMeant + 1);
        for (int i = 0; i < arcsMeant; i++) {
            arc(random.nextInt(places + 1) - random.nextInt(2), random.nextInt(edges + 1), random.nextBoolean());
        }
    }

    private void link(int from, int to, boolean token) {
        if (places < 16) {
            place(token);
            arc(places - 1, from, true);
            arc(places - 1, to, false);
        }
    }

    /** A ring of two edges for each signal, and places between edges of different signals. */
    private void makeTiedRings(int n) {
        for (int s = 0; s < n; s++) {
            boolean high = random.nextInt(3) == 0;
            signal(random.nextBoolean(), high);
            edge(s, true);
            edge(s, false);
            link(edges - 2, edges - 1, high);
            link(edges - 1, edges - 2, !high);
        }
        int ties = random.nextInt(17 - places);
        for (int i = 0; i < ties; i++) {
            link(random.nextInt(edges), random.nextInt(edges), random.nextInt(3) == 0);
        }
    }

    /** Rings through several signals, each signal in one ring, so that all edges are right. */
    private void makeLongRings(int n) {
        makeSignals(n);
        int[] ringOf = new int[n];
        for (int s = 0; s < n; s++) {
            ringOf[s] = random.nextInt(2);
        }
        for (int ring = 0; ring < 2; ring++) {
            int start = edges;
            boolean[] level = new boolean[n];
            System.arraycopy(highAtFirst, 0, level, 0, n);
            int length = 2 + random.nextInt(6);
            for (int i = 0; i < length; i++) {
                int s = random.nextInt(n);
                if (ringOf[s] == ring) {
                    edge(s, !level[s]);
                    level[s] = !level[s];
                }
            }
            for (int s = 0; s < n; s++) {
                if (level[s] != highAtFirst[s]) {
                    edge(s, highAtFirst[s]);
                }
            }
            for (int t = start; t < edges; t++) {
                link(t, t + 1 < edges ? t + 1 : start, t + 1 == edges);
            }
        }
        if (random.nextInt(3) == 0 && edges > 0) {
            link(random.nextInt(edges), random.nextInt(edges), random.nextBoolean());
        }
    }

    /** Signals that know their level by two places, and turns that let some of them toggle. */
    private void makeToggles(int n) {
        int turns = Math.min(16 - 2 * n, 1 + random.nextInt(4));
        for (int s = 0; s < n; s++) {
            boolean high = random.nextInt(4) == 0;
            signal(s + 1 < n && random.nextInt(4) > 0, high);
            place(!high);
            place(high);
        }
        for (int i = 0; i < turns; i++) {
            place(i == 0);
        }
        for (int i = 0; i < 2 * n + random.nextInt(4); i++) {
            int s = i < 2 * n ? i / 2 : random.nextInt(n);
            boolean rising = i < 2 * n ? i % 2 == 0 : random.nextBoolean();
            int before = edges;
            edge(s, rising);
            if (edges > before) {
                arc(2 * s + (rising ? 0 : 1), before, false);
                arc(2 * s + (rising ? 1 : 0), before, true);
                arc(2 * n + random.nextInt(turns), before, false);
                arc(2 * n + random.nextInt(turns), before, true);
                if (random.nextInt(6) == 0) {
                    int read = random.nextInt(2 * n);
                    arc(read, before, false);
                    arc(read, before, true);
                }
            }
        }
    }

    /** One token that walks through codes without meeting one twice: many codes are neither on nor off. */
    private void makeWalks(int n) {
        makeSignals(n);
        int[] codeOf = new int[16];
        boolean[] met = new boolean[1 << n];
        for (int s = 0; s < n; s++) {
            codeOf[0] += highAtFirst[s] ? 1 << s : 0;
        }
        met[codeOf[0]] = true;
        place(true);
        for (int i = 0; i < 40 && edges < 14; i++) {
            int from = random.nextInt(8) == 0 ? random.nextInt(places) : places - 1;
            int s = random.nextInt(n);
            int code = codeOf[from] ^ 1 << s;
            if (!met[code]) {
                met[code] = true;
                codeOf[places] = code;
                place(false);
                edge(s, (code >> s & 1) == 1);
                arc(from, edges - 1, false);
                arc(places - 1, edges - 1, true);
            }
        }
    }

    /**
     * Four inputs toggle one at a time and an output answers, but not always, which makes long sums: at
     * times nine products.
     */
    private void makeParity() {
        int turns = 10;
        for (int s = 0; s < 5; s++) {
            signal(s < 4, false);
            place(true);
            place(false);
        }
        place(true);
        place(false);
        for (int s = 0; s < 4; s++) {
            makeToggle(s, true, turns, turns + 1);
            makeToggle(s, false, turns, turns + 1);
        }
        boolean stops = random.nextBoolean();
        makeToggle(4, stops, turns + 1, turns);
        int most = 1 + random.nextInt(5);
        for (int i = 0; i < most; i++) {
            makeToggle(4, !stops, turns + 1, turns);
            for (int s = random.nextInt(4); s < 4; s += 1 + random.nextInt(4)) {
                int read = 2 * s + random.nextInt(2);
                arc(read, edges - 1, false);
                arc(read, edges - 1, true);
            }
        }
    }

    /** Place 2s has a token while signal s is low, place 2s + 1 while it is high. */
    private void makeToggle(int s, boolean rising, int turn, int nextTurn) {
        edge(s, rising);
        arc(2 * s + (rising ? 0 : 1), edges - 1, false);
        arc(2 * s + (rising ? 1 : 0), edges - 1, true);
        arc(turn, edges - 1, false);
        arc(nextTurn, edges - 1, true);
    }

    private void changeNet() {
        switch (random.nextInt(4)) {
            case 0 -> signal(random.nextBoolean(), random.nextBoolean());
            case 1 -> edge(random.nextInt(signals + 1), random.nextBoolean());
            case 2 -> place(random.nextBoolean());
            default -> arc(random.nextInt(places + 1), random.nextInt(edges + 1), random.nextBoolean());
        }
        lookAtSome();
    }

    private void useNet() {
        String verdict = same("analyse", () -> x.analyse(), () -> y.analyse());
        verdictsSeen[Integer.parseInt(verdict)]++;
        lookAtSome();
        synthesise();
        lookAtProducts();
        check();
        for (int i = 0; i < 6; i++) {
            changeGate();
            if (random.nextBoolean()) {
                check();
            }
        }
        if (random.nextBoolean()) {
            lookAtSome();
            synthesise();
            lookAtProducts();
        }
    }

    private void synthesise() {
        String outcome = same("synthesise", () -> x.synthesise(), () -> y.synthesise());
        refusedSums += outcome.startsWith("Unsupported") ? 1 : 0;
    }

    private void check() {
        String answer = same("check", () -> x.check(), () -> y.check());
        if (answer.length() == 1) {
            answersSeen[answer.charAt(0) - '0']++;
        }
        same("fault", () -> x.fault(), () -> y.fault());
    }

    private void changeGate() {
        int s = random.nextInt(signals + 1);
        int number = random.nextInt((int) Math.pow(3, signals) + 1);
        if (random.nextInt(3) == 0) {
            same("strip", Due.asSupplier(() -> x.strip(s)), Due.asSupplier(() -> y.strip(s)));
        }
        same("append", () -> x.append(s, number), () -> y.append(s, number));
    }

    /** How many states the model has; 0 when it has no graph. */
    private int stateCount() {
        String count = Due.outcomeOf(() -> y.states());
        return Character.isDigit(count.charAt(0)) ? Integer.parseInt(count) : 0;
    }

    private void lookAtState(int k) {
        same("code", () -> x.code(k), () -> y.code(k));
        same("marking", () -> x.marking(k), () -> y.marking(k));
        same("found", () -> x.found(k), () -> y.found(k));
        same("excited", () -> x.excited(k), () -> y.excited(k));
    }

    private void lookAtValue(int s, int code) {
        same("value", () -> x.value(s, code), () -> y.value(s, code));
    }

    private void lookAtSome() {
        same("states", () -> x.states(), () -> y.states());
        same("fault", () -> x.fault(), () -> y.fault());
        int count = stateCount();
        lookAtState(count - 1);
        for (int i = 0; i < 6; i++) {
            lookAtState(random.nextInt(count + 2) - 1);
            lookAtValue(random.nextInt(signals + 1), random.nextInt((1 << signals) + 1));
        }
    }

    private void lookAtProducts() {
        for (int i = 0; i <= signals; i++) {
            int s = i;
            same("products", () -> x.products(s), () -> y.products(s));
            String count = Due.outcomeOf(() -> y.products(s));
            int limit = Character.isDigit(count.charAt(0)) ? Integer.parseInt(count) : 0;
            for (int j = 0; j <= limit; j++) {
                int k = j;
                same("product", () -> x.product(s, k), () -> y.product(s, k));
            }
        }
    }

    /** With the calls that are left, as far as they go, from the last state down. */
    private void lookAtRest() {
        for (int s = 0; s < signals; s++) {
            for (int code = 0; code < 1 << signals; code += 3) {
                lookAtValue(s, code);
            }
        }
        for (int k = stateCount(); k >= -1 && calls < CALLS_OF_AN_OBJECT; k--) {
            lookAtState(k);
        }
    }
}
