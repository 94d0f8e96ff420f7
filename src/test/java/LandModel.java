import java.math.BigInteger;
import java.nio.charset.StandardCharsets;
import java.util.ArrayDeque;
import java.util.ArrayList;
import java.util.Arrays;
import java.util.Deque;
import java.util.HashMap;
import java.util.LinkedHashMap;
import java.util.List;
import java.util.Map;
import java.util.NoSuchElementException;
import java.util.Random;
import java.util.Set;
import java.util.TreeMap;
import java.util.TreeSet;
import java.util.regex.Matcher;
import java.util.regex.Pattern;

/** The document told a second time, by its definitions, however slowly: what ModelTests compares with. */
public final class LandModel {
    static final Set<String> LINES = Set.of("land", "person", "firm", "gate", "path", "wants", "alone", "lost", "had");
    static final List<String> KINDS = List.of("plain", "odd", "guarded", "loose");
    static final List<String> HOOKS = List.of("none", "ahead", "behind");

    static final class FaultMet extends RuntimeException {
        private static final long serialVersionUID = 1;
        final int number;
        final int place;

        FaultMet(int number, int place) {
            this.number = number;
            this.place = place;
        }
    }

    record Token(String text, int place) { }

    record Gate(String kind, int firm, int worth, int told) { }

    record Want(int person, int gate, boolean alone) { }

    record State(List<Integer> hung, int seed, int year) { }

    /** What a text tells. */
    static final class Told {
        int hooks;
        int gust;
        int people;
        final List<List<Integer>> firms = new ArrayList<>();
        final List<Gate> gates = new ArrayList<>();
        final List<Set<Integer>> paths = new ArrayList<>();
        final List<Want> wants = new ArrayList<>();
        final List<Integer> lost = new ArrayList<>();
        final Map<Integer, Integer> had = new TreeMap<>();
    }

    private byte[] tape = new byte[0];
    private Told land;
    private State now;
    private final Deque<State> past = new ArrayDeque<>();
    private final List<State> images = new ArrayList<>();
    private int trouble;
    private int fault;
    private int place;

    // ---- the text

    static Told read(String text) {
        return new Parser(text).parse();
    }

    private static final class Parser {
        private final List<Token> tokens = new ArrayList<>();
        private int i;
        private final Told told = new Told();
        private final Map<String, String> sorts = new HashMap<>();
        private final Map<String, Integer> numbers = new HashMap<>();

        Parser(String text) {
            Matcher m = Pattern.compile(" +|[a-z]+|[0-9]+|.", Pattern.DOTALL).matcher(text);
            while (m.find()) {
                if (!m.group().startsWith(" ")) {
                    tokens.add(new Token(m.group(), m.start()));
                }
            }
            tokens.add(new Token("", text.length()));
        }

        Told parse() {
            boolean first = true;
            do {
                if (!first) {
                    i++;
                }
                line(first);
                first = false;
            } while (peek().text.equals(";"));
            if (!peek().text.isEmpty()) {
                throw fault(1);
            }
            if (told.gates.isEmpty()) {
                throw fault(6);
            }
            return told;
        }

        private Token peek() {
            return tokens.get(i);
        }

        private FaultMet fault(int number) {
            return new FaultMet(number, peek().place);
        }

        private void must(boolean so, int number) {
            if (!so) {
                throw fault(number);
            }
        }

        private void line(boolean first) {
            String word = peek().text;
            must(LINES.contains(word), 1);
            if (word.equals("land")) {
                must(first, 3);
            } else {
                must(!first, 6);
            }
            switch (word) {
                case "person": must(told.people < 5, 5); break;
                case "firm": must(told.firms.size() < 4, 5); break;
                case "gate": must(told.gates.size() < 6, 5); break;
                case "path": must(told.paths.size() < 8, 5); break;
                case "wants":
                case "alone": must(told.wants.size() < 4, 5); break;
                case "lost": must(told.lost.size() < 4, 5); break;
                default:
            }
            i++;
            switch (word) {
                case "land":
                    literal("hooks");
                    told.hooks = whole(6);
                    literal("gust");
                    told.gust = whole(100);
                    break;
                case "person": newName("person", told.people++); break;
                case "firm": firm(); break;
                case "gate": gate(); break;
                case "path": path(); break;
                case "wants":
                case "alone": told.wants.add(new Want(use("person"), use("gate"), word.equals("alone"))); break;
                case "lost": {
                    int g = look("gate");
                    must(!told.lost.contains(g), 3);
                    told.lost.add(g);
                    i++;
                    break;
                }
                default: {
                    int p = look("person");
                    must(!told.had.containsKey(p), 3);
                    i++;
                    told.had.put(p, whole(599));
                }
            }
        }

        private void firm() {
            newName("firm", told.firms.size());
            List<Integer> people = new ArrayList<>();
            boolean more = true;
            while (more) {
                int p = look("person");
                must(!people.contains(p), 3);
                people.add(p);
                i++;
                more = peek().text.equals(",");
                i += more ? 1 : 0;
            }
            told.firms.add(people);
        }

        private void gate() {
            newName("gate", told.gates.size());
            String kind = peek().text;
            must(KINDS.contains(kind), 1);
            i++;
            int f = use("firm");
            literal("worth");
            int worth = whole(99);
            int hung = HOOKS.indexOf(peek().text);
            must(hung >= 0, 1);
            i++;
            told.gates.add(new Gate(kind, f, worth, hung));
        }

        private void path() {
            int g = use("gate");
            int other = look("gate");
            Set<Integer> both = new TreeSet<>(List.of(g));
            must(both.add(other), 3);
            must(!told.paths.contains(both), 3);
            told.paths.add(both);
            i++;
        }

        private void literal(String word) {
            must(peek().text.equals(word), 1);
            i++;
        }

        private int whole(int most) {
            must(peek().text.matches("[0-9]{1,3}"), 1);
            int v = Integer.parseInt(peek().text);
            must(v <= most, 4);
            i++;
            return v;
        }

        private void name() {
            must(peek().text.matches("[a-z]{1,8}") && !LINES.contains(peek().text), 1);
        }

        private void newName(String sort, int number) {
            name();
            must(!sorts.containsKey(peek().text), 3);
            sorts.put(peek().text, sort);
            numbers.put(peek().text, number);
            i++;
        }

        private int look(String sort) {
            name();
            must(sort.equals(sorts.get(peek().text)), 2);
            return numbers.get(peek().text);
        }

        private int use(String sort) {
            int number = look(sort);
            i++;
            return number;
        }
    }

    // ---- owners

    private static Set<Integer> owners(Told land, int g, int hung) {
        Gate gate = land.gates.get(g);
        List<Integer> firm = land.firms.get(gate.firm);
        Set<Integer> head = Set.of(firm.get(0));
        Set<Integer> all = new TreeSet<>(firm);
        Set<Integer> nobody = Set.of();
        String way = HOOKS.get(hung);
        if (gate.kind.equals("odd")) {
            return way.equals("ahead") ? all : way.equals("behind") ? nobody : head;
        }
        return way.equals("ahead") ? head : way.equals("behind") ? all : nobody;
    }

    private static int of(Told land, int p, int g, int hung) {
        Set<Integer> owners = owners(land, g, hung);
        return owners.contains(p) ? land.gates.get(g).worth / owners.size() : 0;
    }

    /** Hooks as told, but for the lost ones. */
    static List<Integer> someHungAtFirst(Told land, Random random) {
        List<Integer> hung = new ArrayList<>();
        for (int g = 0; g < land.gates.size(); g++) {
            hung.add(land.lost.contains(g) ? random.nextInt(3) : land.gates.get(g).told);
        }
        return hung;
    }

    static int has(Told land, int p, List<Integer> hung) {
        int sum = 0;
        for (int g = 0; g < hung.size(); g++) {
            sum += of(land, p, g, hung.get(g));
        }
        return sum;
    }

    private int hasNow(int p) {
        return has(land, p, now.hung);
    }

    private static List<Integer> with(List<Integer> hung, int g, int how) {
        List<Integer> other = new ArrayList<>(hung);
        other.set(g, how);
        return other;
    }

    private static int hooksOf(List<Integer> hung) {
        int sum = 0;
        for (int h : hung) {
            sum += h == 0 ? 0 : 1;
        }
        return sum;
    }

    private List<Integer> toldHung() {
        List<Integer> hung = new ArrayList<>();
        for (Gate gate : land.gates) {
            hung.add(gate.told);
        }
        return hung;
    }

    private int allHooks() {
        return land.hooks + hooksOf(toldHung());
    }

    private boolean guarded(int g) {
        return land.gates.get(g).kind.equals("guarded");
    }

    /** The way behind a MOVE, or null. */
    private List<Integer> after(List<Integer> hung, int move) {
        int g = move % land.gates.size();
        int how = hung.get(g);
        if (guarded(g)) {
            return null;
        }
        switch (move / land.gates.size()) {
            case 0: return how == 0 && hooksOf(hung) < allHooks() ? with(hung, g, 1) : null;
            case 1: return how == 0 && hooksOf(hung) < allHooks() ? with(hung, g, 2) : null;
            case 2: return how != 0 ? with(hung, g, 0) : null;
            default: return how != 0 ? with(hung, g, 3 - how) : null;
        }
    }

    private Map<List<Integer>, Integer> distances(List<Integer> from) {
        Map<List<Integer>, Integer> far = new LinkedHashMap<>();
        Deque<List<Integer>> queue = new ArrayDeque<>(List.of(from));
        far.put(from, 0);
        while (!queue.isEmpty()) {
            List<Integer> hung = queue.remove();
            for (int move = 0; move < 4 * land.gates.size(); move++) {
                List<Integer> next = after(hung, move);
                if (next != null && !far.containsKey(next)) {
                    far.put(next, far.get(hung) + 1);
                    queue.add(next);
                }
            }
        }
        return far;
    }

    private int wantsMet(List<Integer> hung) {
        int bits = 0;
        for (int i = 0; i < land.wants.size(); i++) {
            Want want = land.wants.get(i);
            Set<Integer> owners = owners(land, want.gate, hung.get(want.gate));
            if (owners.contains(want.person) && (!want.alone || owners.size() == 1)) {
                bits |= 1 << i;
            }
        }
        return bits;
    }

    /** The row of MOVES, found from how far each way is from one that meets all wants; or null. */
    private List<Integer> errandRow() {
        int all = (1 << land.wants.size()) - 1;
        Map<List<Integer>, Integer> reached = distances(now.hung);
        Map<List<Integer>, Integer> left = new HashMap<>();
        for (List<Integer> hung : reached.keySet()) {
            if (wantsMet(hung) == all) {
                left.put(hung, 0);
            }
        }
        boolean changed = true;
        while (changed) {
            changed = false;
            for (List<Integer> hung : reached.keySet()) {
                for (int move = 0; move < 4 * land.gates.size(); move++) {
                    List<Integer> next = after(hung, move);
                    if (next != null && left.containsKey(next)
                            && left.get(next) + 1 < left.getOrDefault(hung, 9999)) {
                        left.put(hung, left.get(next) + 1);
                        changed = true;
                    }
                }
            }
        }
        if (!left.containsKey(now.hung)) {
            return null;
        }
        List<Integer> row = new ArrayList<>();
        List<Integer> hung = now.hung;
        while (left.get(hung) > 0) {
            int move = 0;
            while (after(hung, move) == null || left.get(after(hung, move)) != left.get(hung) - 1) {
                move++;
            }
            row.add(move);
            hung = after(hung, move);
        }
        return row;
    }

    /** All rows of n hooks, none, ahead, behind, the first counting most. */
    private static List<List<Integer>> rows(int n) {
        List<List<Integer>> rows = new ArrayList<>();
        rows.add(new ArrayList<>());
        for (int i = 0; i < n; i++) {
            List<List<Integer>> longer = new ArrayList<>();
            for (List<Integer> row : rows) {
                for (int h = 0; h < 3; h++) {
                    List<Integer> one = new ArrayList<>(row);
                    one.add(h);
                    longer.add(one);
                }
            }
            rows = longer;
        }
        return rows;
    }

    private List<List<Integer>> mayHang() {
        List<List<Integer>> ways = new ArrayList<>();
        for (List<Integer> hung : rows(land.gates.size())) {
            boolean may = hooksOf(hung) <= allHooks();
            for (int g = 0; g < hung.size(); g++) {
                may &= !guarded(g) || hung.get(g).equals(now.hung.get(g));
            }
            if (may) {
                ways.add(hung);
            }
        }
        return ways;
    }

    private int least(List<Integer> hung) {
        int least = Integer.MAX_VALUE;
        for (int p = 0; p < land.people; p++) {
            least = Math.min(least, has(land, p, hung));
        }
        return least;
    }

    private List<Integer> coverRow() {
        List<Integer> best = null;
        for (List<Integer> hung : mayHang()) {
            if (least(hung) > 0 && (best == null || hooksOf(hung) < hooksOf(best))) {
                best = hung;
            }
        }
        return best;
    }

    private List<Integer> fairRow() {
        List<Integer> best = null;
        for (List<Integer> hung : mayHang()) {
            if (best == null || least(hung) > least(best)) {
                best = hung;
            }
        }
        return best;
    }

    private boolean still(List<Integer> hung) {
        for (int g = 0; g < hung.size(); g++) {
            if (guarded(g) || hung.get(g) == 0) {
                continue;
            }
            for (int p : owners(land, g, hung.get(g))) {
                int has = has(land, p, hung);
                if (has(land, p, with(hung, g, 0)) > has || has(land, p, with(hung, g, 3 - hung.get(g))) > has) {
                    return false;
                }
            }
        }
        return true;
    }

    private List<List<Integer>> fitRows() {
        List<List<Integer>> fits = new ArrayList<>();
        for (List<Integer> row : rows(land.lost.size())) {
            List<Integer> hung = toldHung();
            for (int k = 0; k < row.size(); k++) {
                hung.set(land.lost.get(k), row.get(k));
            }
            boolean fit = true;
            for (Map.Entry<Integer, Integer> had : land.had.entrySet()) {
                fit &= has(land, had.getKey(), hung) == had.getValue();
            }
            if (fit) {
                fits.add(row);
            }
        }
        return fits;
    }

    private int fitsHung(int k, int how) {
        int n = 0;
        for (List<Integer> row : fitRows()) {
            n += row.get(k) == how ? 1 : 0;
        }
        return n;
    }

    private int[] lookAndLeaves() {
        int[] best = {-2, -2};
        if (fitRows().isEmpty()) {
            return best;
        }
        for (int k = 0; k < land.lost.size(); k++) {
            int most = Math.max(fitsHung(k, 0), Math.max(fitsHung(k, 1), fitsHung(k, 2)));
            if (best[0] == -2 || most < best[1]) {
                best = new int[] {k, most};
            }
        }
        return best;
    }

    private boolean path(int g, int other) {
        return g != other && land.paths.contains(new TreeSet<>(List.of(g, other)));
    }

    /** Distances by paths through some gates, -2 where there are none. */
    private int[] far(int g, Set<Integer> through) {
        int[] far = new int[land.gates.size()];
        Arrays.fill(far, -2);
        if (!through.contains(g)) {
            return far;
        }
        far[g] = 0;
        Deque<Integer> queue = new ArrayDeque<>(List.of(g));
        while (!queue.isEmpty()) {
            int from = queue.remove();
            for (int to : through) {
                if (far[to] == -2 && path(from, to)) {
                    far[to] = far[from] + 1;
                    queue.add(to);
                }
            }
        }
        return far;
    }

    private Set<Integer> allGates() {
        Set<Integer> all = new TreeSet<>();
        for (int g = 0; g < land.gates.size(); g++) {
            all.add(g);
        }
        return all;
    }

    private int votes(int bits) {
        int sum = 0;
        for (int p = 0; p < land.people; p++) {
            sum += (bits >> p & 1) * hasNow(p);
        }
        return sum;
    }

    private static long part(BigInteger upper, BigInteger lower, boolean wantsLower) {
        BigInteger common = upper.gcd(lower);
        return (wantsLower ? lower : upper).divide(common).longValueExact();
    }

    private int falls(int g, int hung) {
        if (guarded(g) || hung == 0) {
            return 0;
        }
        return land.gates.get(g).kind.equals("loose") ? Math.min(100, 2 * land.gust) : land.gust;
    }

    /** What hooks hang behind a year of gusts by chance, each with its likelihood by 100 to the 6th. */
    private Map<List<Integer>, BigInteger> outcomes() {
        Map<List<Integer>, BigInteger> all = new LinkedHashMap<>();
        all.put(now.hung, BigInteger.ONE);
        for (int g = 0; g < 6; g++) {
            Map<List<Integer>, BigInteger> next = new LinkedHashMap<>();
            for (Map.Entry<List<Integer>, BigInteger> one : all.entrySet()) {
                int falls = g < land.gates.size() ? falls(g, one.getKey().get(g)) : 0;
                next.merge(one.getKey(), one.getValue().multiply(BigInteger.valueOf(100 - falls)), BigInteger::add);
                if (falls > 0) {
                    next.merge(with(one.getKey(), g, 0), one.getValue().multiply(BigInteger.valueOf(falls)), BigInteger::add);
                }
            }
            all = next;
        }
        return all;
    }

    private State blown(State state) {
        List<Integer> hung = new ArrayList<>(state.hung);
        long seed = state.seed;
        for (int g = 0; g < hung.size(); g++) {
            if (!guarded(g) && hung.get(g) != 0) {
                seed = (75 * seed + 74) % 65537;
                if (seed % 100 < falls(g, hung.get(g))) {
                    hung.set(g, 0);
                }
            }
        }
        return new State(hung, (int) seed, state.year + 1);
    }

    // ---- the face

    private int no(int why) {
        trouble = why;
        return -1;
    }

    private int yes(int answer) {
        trouble = 0;
        return answer;
    }

    private boolean noMan(int p) {
        return land == null || p < 0 || p >= land.people;
    }

    private boolean noGate(int g) {
        return land == null || g < 0 || g >= land.gates.size();
    }

    private static boolean out(int v, int most) {
        return v < 0 || v > most;
    }

    public int feed(int a, int b, int c, int d, int e) {
        if (tape.length > 880) {
            return -1;
        }
        int n = tape.length;
        tape = Arrays.copyOf(tape, n + 20);
        for (int v : new int[] {a, b, c, d, e}) {
            for (int shift = 24; shift >= 0; shift -= 8) {
                tape[n++] = (byte) (v >>> shift);
            }
        }
        return n;
    }

    public int land(int n) {
        if (n < 0 || n > tape.length) {
            return no(2);
        }
        String text = new String(tape, 0, n, StandardCharsets.ISO_8859_1);
        tape = new byte[0];
        fault = 0;
        try {
            land = read(text);
        } catch (FaultMet met) {
            fault = met.number;
            place = met.place;
            return no(4);
        }
        now = new State(toldHung(), 0, 0);
        past.clear();
        images.clear();
        return yes(land.gates.size());
    }

    public int fault() {
        return fault;
    }

    public int where() {
        return trouble == 4 ? place : -1;
    }

    private static int bits(Iterable<Integer> set) {
        int bits = 0;
        for (int i : set) {
            bits |= 1 << i;
        }
        return bits;
    }

    public int gate(int g, int what) {
        if (noGate(g) || out(what, 5)) {
            return no(1);
        }
        Gate gate = land.gates.get(g);
        Set<Integer> near = new TreeSet<>();
        for (int other : allGates()) {
            if (path(g, other)) {
                near.add(other);
            }
        }
        return yes(new int[] {KINDS.indexOf(gate.kind), gate.firm, gate.worth, now.hung.get(g),
            bits(owners(land, g, now.hung.get(g))), bits(near)}[what]);
    }

    private Set<Integer> owned(int p, boolean alone) {
        Set<Integer> owned = new TreeSet<>();
        for (int g : allGates()) {
            Set<Integer> owners = owners(land, g, now.hung.get(g));
            if (owners.contains(p) && (!alone || owners.size() == 1)) {
                owned.add(g);
            }
        }
        return owned;
    }

    public int person(int p, int what) {
        if (noMan(p) || out(what, 3)) {
            return no(1);
        }
        Set<Integer> firms = new TreeSet<>();
        for (int f = 0; f < land.firms.size(); f++) {
            if (land.firms.get(f).contains(p)) {
                firms.add(f);
            }
        }
        return yes(new int[] {hasNow(p), bits(owned(p, false)), bits(owned(p, true)), bits(firms)}[what]);
    }

    public int firm(int f, int what) {
        if (land == null || f < 0 || f >= land.firms.size() || out(what, 2)) {
            return no(1);
        }
        int sum = 0;
        for (int g : allGates()) {
            for (int p : land.firms.get(f)) {
                sum += land.gates.get(g).firm == f ? of(land, p, g, now.hung.get(g)) : 0;
            }
        }
        return yes(new int[] {land.firms.get(f).get(0), bits(land.firms.get(f)), sum}[what]);
    }

    public int commons() {
        if (land == null) {
            return no(1);
        }
        int bits = 0;
        for (int g : allGates()) {
            bits |= owners(land, g, now.hung.get(g)).isEmpty() ? 1 << g : 0;
        }
        return yes(bits);
    }

    public int richest() {
        if (land == null) {
            return no(1);
        }
        int best = 0;
        for (int p = 0; p < land.people; p++) {
            best = hasNow(p) > hasNow(best) ? p : best;
        }
        return yes(best);
    }

    public int ground() {
        return land == null ? no(1) : yes(allHooks() - hooksOf(now.hung));
    }

    public int hasIf(int p, int g, int hung) {
        if (noMan(p) || noGate(g)) {
            return no(1);
        }
        return out(hung, 2) ? no(2) : yes(has(land, p, with(now.hung, g, hung)));
    }

    public int can(int move) {
        if (land == null || out(move, 4 * land.gates.size() - 1)) {
            return no(1);
        }
        return yes(after(now.hung, move) == null ? 0 : 1);
    }

    public int errand() {
        if (land == null) {
            return no(1);
        }
        List<Integer> row = errandRow();
        return yes(row == null ? -2 : row.size());
    }

    public int errandAt(int i) {
        List<Integer> row = land == null ? null : errandRow();
        return row == null || i < 0 || i >= row.size() ? no(1) : yes(row.get(i));
    }

    public int met() {
        return land == null ? no(1) : yes(wantsMet(now.hung));
    }

    public int movesFor(int p, int much) {
        if (noMan(p)) {
            return no(1);
        }
        if (out(much, 599)) {
            return no(2);
        }
        int fewest = 9999;
        for (Map.Entry<List<Integer>, Integer> one : distances(now.hung).entrySet()) {
            if (has(land, p, one.getKey()) >= much) {
                fewest = Math.min(fewest, one.getValue());
            }
        }
        return yes(fewest == 9999 ? -2 : fewest);
    }

    public int mostBy(int p, int moves) {
        if (noMan(p)) {
            return no(1);
        }
        if (out(moves, 20)) {
            return no(2);
        }
        int most = 0;
        for (Map.Entry<List<Integer>, Integer> one : distances(now.hung).entrySet()) {
            if (one.getValue() <= moves) {
                most = Math.max(most, has(land, p, one.getKey()));
            }
        }
        return yes(most);
    }

    public int reach() {
        return land == null ? no(1) : yes(distances(now.hung).size());
    }

    public int cover() {
        if (land == null) {
            return no(1);
        }
        return yes(coverRow() == null ? -2 : hooksOf(coverRow()));
    }

    public int coverAt(int g) {
        if (noGate(g)) {
            return no(1);
        }
        return yes(coverRow() == null ? -2 : coverRow().get(g));
    }

    public int stills() {
        if (land == null) {
            return no(1);
        }
        int n = 0;
        for (List<Integer> hung : mayHang()) {
            n += still(hung) ? 1 : 0;
        }
        return yes(n);
    }

    public int isStill() {
        return land == null ? no(1) : yes(still(now.hung) ? 1 : 0);
    }

    public int fairest() {
        return land == null ? no(1) : yes(least(fairRow()));
    }

    public int fairAt(int g) {
        return noGate(g) ? no(1) : yes(fairRow().get(g));
    }

    public int fits() {
        return land == null ? no(1) : yes(fitRows().size());
    }

    private boolean noLost(int k) {
        return land == null || k < 0 || k >= land.lost.size();
    }

    public int fitAt(int i, int k) {
        if (noLost(k) || i < 0 || i >= fitRows().size()) {
            return no(1);
        }
        return yes(fitRows().get(i).get(k));
    }

    public int hungBy(int k, int hung) {
        if (noLost(k)) {
            return no(1);
        }
        return out(hung, 2) ? no(2) : yes(fitsHung(k, hung));
    }

    public int look() {
        return land == null ? no(1) : yes(lookAndLeaves()[0]);
    }

    public int lookLeaves() {
        return land == null ? no(1) : yes(lookAndLeaves()[1]);
    }

    public int judge() {
        if (land == null) {
            return no(1);
        }
        for (Map.Entry<Integer, Integer> had : land.had.entrySet()) {
            if (has(land, had.getKey(), toldHung()) != had.getValue()) {
                return yes(had.getKey());
            }
        }
        return yes(-2);
    }

    public int apart(int g, int other) {
        return noGate(g) || noGate(other) ? no(1) : yes(far(g, allGates())[other]);
    }

    public int sentries() {
        if (land == null) {
            return no(1);
        }
        for (int n = 1; n <= 6; n++) {
            for (int bits = 0; bits < 64; bits++) {
                if (Integer.bitCount(bits) == n && bits >> land.gates.size() == 0 && watched(bits)) {
                    return yes(bits);
                }
            }
        }
        throw new IllegalStateException();
    }

    private boolean watched(int bits) {
        for (int g : allGates()) {
            boolean seen = (bits >> g & 1) == 1;
            for (int other : allGates()) {
                seen |= (bits >> other & 1) == 1 && path(g, other);
            }
            if (!seen) {
                return false;
            }
        }
        return true;
    }

    public int parts() {
        if (land == null) {
            return no(1);
        }
        Set<Integer> firsts = new TreeSet<>();
        for (int g : allGates()) {
            int first = 0;
            while (far(g, allGates())[first] == -2) {
                first++;
            }
            firsts.add(first);
        }
        return yes(firsts.size());
    }

    public int estate(int p, int g) {
        if (noMan(p) || noGate(g)) {
            return no(1);
        }
        int sum = 0;
        int[] far = far(g, owned(p, false));
        for (int other : allGates()) {
            sum += far[other] == -2 ? 0 : of(land, p, other, now.hung.get(other));
        }
        return yes(sum);
    }

    public long power(int p, boolean lower) {
        if (noMan(p)) {
            return no(1);
        }
        yes(0);
        if (hasNow(p) == 0) {
            return lower ? 1 : 0;
        }
        int sets = 0;
        int turned = 0;
        for (int bits = 0; bits < 1 << land.people; bits++) {
            boolean fits = (bits >> p & 1) == 0;
            for (int other = 0; other < land.people; other++) {
                fits &= (bits >> other & 1) == 0 || hasNow(other) > 0;
            }
            if (fits) {
                sets++;
                int all = votes(31);
                turned += votes(bits) * 2 <= all && votes(bits | 1 << p) * 2 > all ? 1 : 0;
            }
        }
        return part(BigInteger.valueOf(turned), BigInteger.valueOf(sets), lower);
    }

    public int rule() {
        if (land == null) {
            return no(1);
        }
        for (int n = 1; n <= 5; n++) {
            for (int bits = 0; bits < 1 << land.people; bits++) {
                if (Integer.bitCount(bits) == n && 2 * votes(bits) > votes(31)) {
                    return yes(bits);
                }
            }
        }
        return yes(-2);
    }

    private static int[] pay(int worth, boolean steals, boolean watches) {
        return steals ? watches ? new int[] {-3, 2} : new int[] {worth, -worth}
            : watches ? new int[] {0, -1} : new int[] {0, 0};
    }

    public int steal(int worth, boolean steals, boolean watches, boolean ofSentry) {
        if (land == null) {
            no(1);
            return -100;
        }
        if (out(worth, 20)) {
            no(2);
            return -100;
        }
        return yes(pay(worth, steals, watches)[ofSentry ? 1 : 0]);
    }

    private List<Integer> restsAt(int worth) {
        List<Integer> rests = new ArrayList<>();
        for (boolean steals : new boolean[] {false, true}) {
            for (boolean watches : new boolean[] {false, true}) {
                if (pay(worth, !steals, watches)[0] <= pay(worth, steals, watches)[0]
                        && pay(worth, steals, !watches)[1] <= pay(worth, steals, watches)[1]) {
                    rests.add((steals ? 10 : 0) + (watches ? 1 : 0));
                }
            }
        }
        return rests;
    }

    public int rests(int worth) {
        return land == null ? no(1) : out(worth, 20) ? no(2) : yes(restsAt(worth).size());
    }

    public int rest(int worth) {
        return land == null ? no(1) : out(worth, 20) ? no(2)
            : yes(restsAt(worth).isEmpty() ? -2 : restsAt(worth).get(0));
    }

    public long holds(int g, int n, boolean lower) {
        if (noGate(g)) {
            return no(1);
        }
        if (out(n, 4)) {
            return no(2);
        }
        yes(0);
        return part(BigInteger.valueOf(100 - falls(g, now.hung.get(g))).pow(n), BigInteger.valueOf(100).pow(n), lower);
    }

    public long mean(int p, boolean lower) {
        if (noMan(p)) {
            return no(1);
        }
        yes(0);
        BigInteger sum = BigInteger.ZERO;
        for (Map.Entry<List<Integer>, BigInteger> one : outcomes().entrySet()) {
            sum = sum.add(one.getValue().multiply(BigInteger.valueOf(has(land, p, one.getKey()))));
        }
        return part(sum, BigInteger.valueOf(100).pow(6), lower);
    }

    public long keeps(int p, int much, boolean lower) {
        if (noMan(p)) {
            return no(1);
        }
        if (out(much, 599)) {
            return no(2);
        }
        yes(0);
        BigInteger sum = BigInteger.ZERO;
        for (Map.Entry<List<Integer>, BigInteger> one : outcomes().entrySet()) {
            sum = has(land, p, one.getKey()) >= much ? sum.add(one.getValue()) : sum;
        }
        return part(sum, BigInteger.valueOf(100).pow(6), lower);
    }

    public int century(int p, int seed, int n) {
        if (noMan(p)) {
            return no(1);
        }
        if (out(seed, 65536) || out(n, 60)) {
            return no(2);
        }
        State state = new State(now.hung, seed, 0);
        for (int year = 0; year < n; year++) {
            state = blown(state);
        }
        return yes(has(land, p, state.hung));
    }

    public int bare(int seed, int n) {
        if (land == null) {
            return no(1);
        }
        if (out(seed, 65536) || out(n, 60)) {
            return no(2);
        }
        State state = new State(now.hung, seed, 0);
        for (int year = 0; year <= n; year++) {
            boolean bare = true;
            for (int g : allGates()) {
                bare &= guarded(g) || state.hung.get(g) == 0;
            }
            if (bare) {
                return yes(year);
            }
            state = blown(state);
        }
        return yes(-2);
    }

    private void act(State next) {
        past.addLast(now);
        if (past.size() > 16) {
            past.removeFirst();
        }
        now = next;
    }

    /** A MOVE by its number: its TROUBLE. */
    private int move(int number, boolean wantsHook) {
        int g = number % land.gates.size();
        if (wantsHook != (now.hung.get(g) != 0)) {
            return 5;
        }
        List<Integer> hung = after(now.hung, number);
        if (hung == null) {
            return 6;
        }
        act(new State(hung, now.seed, now.year));
        return 0;
    }

    public boolean hang(int g, boolean behind) {
        trouble = noGate(g) ? 1 : move((behind ? land.gates.size() : 0) + g, false);
        return trouble == 0;
    }

    public boolean take(int g) {
        trouble = noGate(g) ? 1 : move(2 * land.gates.size() + g, true);
        return trouble == 0;
    }

    public int turnOver(int g) {
        trouble = noGate(g) ? 1 : move(3 * land.gates.size() + g, true);
        return trouble == 0 ? now.hung.get(g) : -1;
    }

    public int gust() {
        if (land == null) {
            return no(1);
        }
        if (now.year >= 999) {
            return no(3);
        }
        int hooks = hooksOf(now.hung);
        act(blown(now));
        return yes(hooks - hooksOf(now.hung));
    }

    public boolean seed(int v) {
        trouble = land == null ? 1 : out(v, 65536) ? 2 : 0;
        if (trouble == 0) {
            now = new State(now.hung, v, now.year);
        }
        return trouble == 0;
    }

    public boolean undo() {
        trouble = past.isEmpty() ? 6 : 0;
        if (trouble == 0) {
            now = past.removeLast();
        }
        return trouble == 0;
    }

    public int image() {
        if (land == null) {
            return no(1);
        }
        if (images.size() == 3) {
            return no(3);
        }
        images.add(now);
        return yes(images.size() - 1);
    }

    public boolean back(int image) {
        trouble = image < 0 || image >= images.size() ? 1 : 0;
        if (trouble == 0) {
            now = images.get(image);
            past.clear();
        }
        return trouble == 0;
    }

    public int led(int i) {
        List<Integer> poor = new ArrayList<>();
        for (int p = 0; land != null && p < land.people; p++) {
            if (hasNow(p) == 0) {
                poor.add(p);
            }
        }
        if (i < 0 || i >= poor.size()) {
            throw new NoSuchElementException();
        }
        return poor.get(i);
    }

    public int size(int what) {
        if (out(what, 13)) {
            return -1;
        }
        if (what == 13) {
            return tape.length;
        }
        if (land == null) {
            return 0;
        }
        return new int[] {land.hooks, land.gust, land.people, land.firms.size(), land.gates.size(),
            land.paths.size(), land.wants.size(), land.lost.size(), land.had.size(), now.year, now.seed,
            past.size(), images.size()}[what];
    }

    public int trouble() {
        return trouble;
    }
}
