import java.math.BigInteger;
import java.util.ArrayList;
import java.util.Arrays;
import java.util.List;

/**
 * The document read word by word, with no thought for speed and with none of the class's ways:
 * the graph is a matrix that is really changed when a name is taken out, all orders are tried, all
 * states are listed, and sums are BigIntegers.
 */
final class Reference {
    private final List<Integer> counts = new ArrayList<>();
    private final List<Integer> sets = new ArrayList<>();
    private final List<int[]> entries = new ArrayList<>();
    private final List<Integer> copies = new ArrayList<>();
    private final List<Integer> bound = new ArrayList<>();
    private final Integer[] places = new Integer[12];
    private int memory = 65536;
    private int kind = 0;
    private List<Integer> order = new ArrayList<>();

    /** What comes of taking the names out in an order. */
    private static final class Outcome {
        final List<Integer> bags = new ArrayList<>();
        int fill;
    }

    // ---- the model

    private boolean isName(int name) {
        return 0 <= name && name < counts.size();
    }

    private boolean isSet(int set) {
        if (set < 0) {
            return false;
        }
        for (int name = 0; name < 31; name++) {
            if ((set >> name & 1) == 1 && !isName(name)) {
                return false;
            }
        }
        return true;
    }

    private static List<Integer> members(int set) {
        List<Integer> found = new ArrayList<>();
        for (int name = 0; name < 31; name++) {
            if ((set >> name & 1) == 1) {
                found.add(name);
            }
        }
        return found;
    }

    private int cells(int set) {
        int product = 1;
        for (int name : members(set)) {
            product *= counts.get(name);
        }
        return product;
    }

    private int states() {
        return cells((1 << counts.size()) - 1);
    }

    private int allCopies() {
        int sum = 0;
        for (int n : copies) {
            sum += n;
        }
        return sum;
    }

    private int number(int set, int[] values) {
        int number = 0;
        int product = 1;
        for (int name : members(set)) {
            number += values[name] * product;
            product *= counts.get(name);
        }
        return number;
    }

    /** All states in their order: the first name is the slowest. */
    private List<int[]> allStates() {
        List<int[]> all = new ArrayList<>();
        all.add(new int[0]);
        for (int count : counts) {
            List<int[]> longer = new ArrayList<>();
            for (int[] state : all) {
                for (int v = 0; v < count; v++) {
                    int[] next = Arrays.copyOf(state, state.length + 1);
                    next[state.length] = v;
                    longer.add(next);
                }
            }
            all = longer;
        }
        return all;
    }

    private long weightOf(int[] state) {
        for (int name = 0; name < state.length; name++) {
            if (bound.get(name) != -1 && bound.get(name) != state[name]) {
                return 0;
            }
        }
        long product = 1;
        for (int f = 0; f < sets.size(); f++) {
            for (int copy = 0; copy < copies.get(f); copy++) {
                product *= entries.get(f)[number(sets.get(f), state)];
            }
        }
        return product;
    }

    private BigInteger sum() {
        BigInteger sum = BigInteger.ZERO;
        for (int[] state : allStates()) {
            sum = sum.add(BigInteger.valueOf(weightOf(state)));
        }
        return sum;
    }

    private List<int[]> ranking() {
        List<int[]> found = new ArrayList<>();
        for (int[] state : allStates()) {
            if (weightOf(state) > 0) {
                found.add(state);
            }
        }
        // The sort is stable: of one weight the first state stays first.
        found.sort((a, b) -> Long.compare(weightOf(b), weightOf(a)));
        return found;
    }

    // ---- the graph and the orders

    private boolean[][] graph() {
        int n = counts.size();
        boolean[][] joined = new boolean[n][n];
        for (int set : sets) {
            for (int a : members(set)) {
                for (int b : members(set)) {
                    joined[a][b] |= a != b;
                }
            }
        }
        return joined;
    }

    private static int bag(boolean[][] joined, int name) {
        int bits = 1 << name;
        for (int other = 0; other < joined.length; other++) {
            if (joined[name][other]) {
                bits |= 1 << other;
            }
        }
        return bits;
    }

    /** Takes a name out of the graph: how many pairs became neighbours. */
    private static int takeOut(boolean[][] joined, int name) {
        int fill = 0;
        for (int a = 0; a < joined.length; a++) {
            for (int b = a + 1; b < joined.length; b++) {
                if (joined[name][a] && joined[name][b] && !joined[a][b]) {
                    joined[a][b] = true;
                    joined[b][a] = true;
                    fill++;
                }
            }
        }
        for (int a = 0; a < joined.length; a++) {
            joined[name][a] = false;
            joined[a][name] = false;
        }
        return fill;
    }

    private static boolean[][] copyOf(boolean[][] joined) {
        boolean[][] copy = new boolean[joined.length][];
        for (int i = 0; i < joined.length; i++) {
            copy[i] = joined[i].clone();
        }
        return copy;
    }

    private Outcome outcome(List<Integer> names) {
        Outcome result = new Outcome();
        boolean[][] joined = graph();
        for (int name : names) {
            result.bags.add(bag(joined, name));
            result.fill += takeOut(joined, name);
        }
        return result;
    }

    private static int width(List<Integer> bags) {
        int greatest = 0;
        for (int bag : bags) {
            greatest = Math.max(greatest, Integer.bitCount(bag));
        }
        return greatest - 1;
    }

    private int cellsInAll(List<Integer> bags) {
        int sum = 0;
        for (int bag : bags) {
            sum += cells(bag);
        }
        return sum;
    }

    private int mostCells(List<Integer> bags) {
        int most = 0;
        for (int bag : bags) {
            most = Math.max(most, cells(bag));
        }
        return most;
    }

    private List<Integer> byNumbers() {
        List<Integer> names = new ArrayList<>();
        for (int name = 0; name < counts.size(); name++) {
            names.add(name);
        }
        return names;
    }

    private List<Integer> byPlaces() {
        List<Integer> names = new ArrayList<>();
        for (int i = 0; i < counts.size(); i++) {
            names.add(places[i] == null ? -1 : places[i]);
        }
        return names;
    }

    private List<Integer> byRule(int rule) {
        List<Integer> names = new ArrayList<>();
        List<Integer> left = byNumbers();
        boolean[][] joined = graph();
        while (!left.isEmpty()) {
            int chosen = -1;
            int least = 0;
            for (int name : left) {
                int bag = bag(joined, name);
                int cost = rule == 2 ? Integer.bitCount(bag) - 1
                        : rule == 3 ? takeOut(copyOf(joined), name) : cells(bag);
                if (chosen < 0 || cost < least) {
                    chosen = name;
                    least = cost;
                }
            }
            takeOut(joined, chosen);
            names.add(chosen);
            left.remove(Integer.valueOf(chosen));
        }
        return names;
    }

    private List<Integer> bestOrder;
    private int bestWidth;
    private int bestCells;

    /** Tries all orders, the first ones first, so that only a really better one is taken. */
    private List<Integer> best() {
        bestOrder = null;
        tryAll(new ArrayList<>(), byNumbers(), graph(), 0, 0);
        return bestOrder;
    }

    private void tryAll(List<Integer> soFar, List<Integer> left, boolean[][] joined, int size, int cells) {
        boolean better = bestOrder == null || size - 1 < bestWidth || size - 1 == bestWidth && cells < bestCells;
        if (!better) {
            return;
        }
        if (left.isEmpty()) {
            bestOrder = new ArrayList<>(soFar);
            bestWidth = size - 1;
            bestCells = cells;
            return;
        }
        for (int name : left) {
            int bag = bag(joined, name);
            boolean[][] then = copyOf(joined);
            takeOut(then, name);
            List<Integer> names = new ArrayList<>(soFar);
            names.add(name);
            List<Integer> rest = new ArrayList<>(left);
            rest.remove(Integer.valueOf(name));
            tryAll(names, rest, then, Math.max(size, Integer.bitCount(bag)), cells + cells(bag));
        }
    }

    private boolean lacksMemory() {
        return mostCells(outcome(order).bags) > memory;
    }

    private void came() {
        kind = 0;
        order = byNumbers();
    }

    // ---- the face

    int name(int n) {
        if (n < 2 || n > 4) {
            return -2;
        }
        if (counts.size() == 12 || states() * n > 65536) {
            return -4;
        }
        counts.add(n);
        bound.add(-1);
        came();
        return counts.size() - 1;
    }

    int factor(int set) {
        if (!isSet(set)) {
            return -1;
        }
        if (members(set).size() > 4) {
            return -2;
        }
        if (sets.size() == 16 || allCopies() == 16) {
            return -4;
        }
        sets.add(set);
        copies.add(1);
        int[] ones = new int[cells(set)];
        Arrays.fill(ones, 1);
        entries.add(ones);
        came();
        return sets.size() - 1;
    }

    int put(int factor, int entry, int v) {
        if (factor < 0 || factor >= sets.size()) {
            return -1;
        }
        if (entry < 0 || entry >= cells(sets.get(factor)) || v < 0 || v > 7) {
            return -2;
        }
        int was = entries.get(factor)[entry];
        entries.get(factor)[entry] = v;
        return was;
    }

    int copies(int factor, int n) {
        if (factor < 0 || factor >= sets.size()) {
            return -1;
        }
        if (n < 1 || n > 3) {
            return -2;
        }
        if (allCopies() - copies.get(factor) + n > 16) {
            return -4;
        }
        return copies.set(factor, n);
    }

    int evidence(int name, int value) {
        if (!isName(name)) {
            return -1;
        }
        if (value < -1 || value >= counts.get(name)) {
            return -2;
        }
        return bound.set(name, value);
    }

    int memory(int n) {
        if (n < 1 || n > 65536) {
            return -2;
        }
        int was = memory;
        memory = n;
        return was;
    }

    int place(int i, int name) {
        if (i < 0 || i > 11) {
            return -2;
        }
        if (!isName(name)) {
            return -1;
        }
        int was = places[i] == null ? -1 : places[i];
        places[i] = name;
        return was;
    }

    int order(int newKind) {
        if (newKind < 0 || newKind > 5) {
            return -2;
        }
        List<Integer> names;
        if (newKind == 1) {
            names = byPlaces();
            List<Integer> sorted = new ArrayList<>(names);
            sorted.sort(null);
            if (!sorted.equals(byNumbers())) {
                return -3;
            }
        } else {
            names = newKind == 0 ? byNumbers() : newKind == 5 ? best() : byRule(newKind);
        }
        kind = newKind;
        order = names;
        return width(outcome(order).bags);
    }

    int taken(int i, int what) {
        if (i < 0 || i >= order.size()) {
            return -1;
        }
        if (what < 0 || what > 3) {
            return -2;
        }
        int bag = outcome(order).bags.get(i);
        if (what == 0) {
            return order.get(i);
        }
        if (what == 1) {
            return bag;
        }
        if (what == 3) {
            return cells(bag);
        }
        for (int j = i + 1; j < order.size(); j++) {
            if ((bag >> order.get(j) & 1) == 1) {
                return j;
            }
        }
        return -1;
    }

    int told(int what) {
        Outcome of = outcome(order);
        switch (what) {
            case 0:
                return counts.size();
            case 1:
                return sets.size();
            case 2:
                return allCopies();
            case 3:
                return states();
            case 4:
                return pairs();
            case 5:
                return kind;
            case 6:
                return width(of.bags);
            case 7:
                return of.fill;
            case 8:
                return cellsInAll(of.bags);
            case 9:
                return mostCells(of.bags);
            default:
                return -2;
        }
    }

    private int pairs() {
        boolean[][] joined = graph();
        int pairs = 0;
        for (int a = 0; a < joined.length; a++) {
            for (int b = a + 1; b < joined.length; b++) {
                pairs += joined[a][b] ? 1 : 0;
            }
        }
        return pairs;
    }

    long total() {
        return lacksMemory() ? -4 : sum().longValueExact();
    }

    long share(int set, int number, int what) {
        if (!isSet(set)) {
            return -1;
        }
        if (number < 0 || number >= cells(set) || what < 0 || what > 1) {
            return -2;
        }
        if (lacksMemory()) {
            return -4;
        }
        BigInteger total = sum();
        if (total.signum() == 0) {
            return -3;
        }
        BigInteger part = BigInteger.ZERO;
        for (int[] state : allStates()) {
            if (number(set, state) == number) {
                part = part.add(BigInteger.valueOf(weightOf(state)));
            }
        }
        BigInteger common = part.gcd(total);
        return (what == 0 ? part : total).divide(common).longValueExact();
    }

    long greatest() {
        if (lacksMemory()) {
            return -4;
        }
        List<int[]> ranking = ranking();
        return ranking.isEmpty() ? 0 : weightOf(ranking.get(0));
    }

    int best(int name) {
        if (!isName(name)) {
            return -1;
        }
        if (lacksMemory()) {
            return -4;
        }
        List<int[]> ranking = ranking();
        return ranking.isEmpty() ? -3 : ranking.get(0)[name];
    }

    long rank(int k, int name) {
        if (name != -1 && !isName(name)) {
            return -1;
        }
        if (k < 0 || k > 23) {
            return -2;
        }
        if (lacksMemory()) {
            return -4;
        }
        List<int[]> ranking = ranking();
        if (k >= ranking.size()) {
            return -3;
        }
        return name == -1 ? weightOf(ranking.get(k)) : ranking.get(k)[name];
    }

    int support() {
        return lacksMemory() ? -4 : ranking().size();
    }

    int among(int name, int value) {
        if (!isName(name)) {
            return -1;
        }
        if (value < 0 || value >= counts.get(name)) {
            return -2;
        }
        if (lacksMemory()) {
            return -4;
        }
        int found = 0;
        for (int[] state : allStates()) {
            found += weightOf(state) > 0 && state[name] == value ? 1 : 0;
        }
        return found;
    }

    int drawn(long u, int name) {
        if (!isName(name)) {
            return -1;
        }
        if (u < 0) {
            return -2;
        }
        if (lacksMemory()) {
            return -4;
        }
        BigInteger upTo = BigInteger.ZERO;
        for (int[] state : allStates()) {
            upTo = upTo.add(BigInteger.valueOf(weightOf(state)));
            if (upTo.compareTo(BigInteger.valueOf(u)) > 0) {
                return state[name];
            }
        }
        return -3;
    }

    int apart(int a, int b, int set) {
        if (!isName(a) || !isName(b) || !isSet(set)) {
            return -1;
        }
        boolean[][] way = graph();
        int n = way.length;
        for (int name = 0; name < n; name++) {
            way[name][name] = true;
        }
        for (int name : members(set)) {
            Arrays.fill(way[name], false);
            for (int other = 0; other < n; other++) {
                way[other][name] = false;
            }
        }
        for (int through = 0; through < n; through++) {
            for (int from = 0; from < n; from++) {
                for (int to = 0; to < n; to++) {
                    way[from][to] |= way[from][through] && way[through][to];
                }
            }
        }
        return way[a][b] ? 0 : 1;
    }

    long weight(int state) {
        return state < 0 || state >= states() ? -2 : weightOf(allStates().get(state));
    }
}
