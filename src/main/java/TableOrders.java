import java.util.Arrays;

/**
 * A finite model as tables over names. The numbered promises that the public methods keep stand in
 * the document DOC.md; the words in capitals there are the plain words here.
 */
public final class TableOrders {
    public static final int NONE = -1;

    private static final int UNKNOWN = -1;
    private static final int OUTSIDE = -2;
    private static final int NOT_SO = -3;
    private static final int NO_ROOM = -4;

    private static final int MOST_NAMES = 12;
    private static final int LEAST_VALUES = 2;
    private static final int MOST_VALUES = 4;
    private static final int MOST_STATES = 65536;
    private static final int MOST_SETS = 1 << MOST_NAMES;
    private static final int MOST_NAMES_OF_FACTOR = 4;
    private static final int MOST_CELLS_OF_FACTOR = 256;
    private static final int MOST_ENTRY = 7;
    private static final int MOST_COPIES_OF_FACTOR = 3;
    private static final int MOST_COPIES = 16;
    private static final int MOST_MEMORY = 65536;
    private static final int MOST_RANKS = 24;

    private static final int BY_NUMBERS = 0;
    private static final int BY_PLACES = 1;
    private static final int BY_NEIGHBOURS = 2;
    private static final int BY_FILL = 3;
    private static final int BY_CELLS = 4;
    private static final int BEST_OF_ALL = 5;

    // Euclid's steps for two longs are fewer than this.
    private static final int MOST_DIVISIONS = 128;

    private final Graph graph;
    private final Factors factors;
    private final Sequence sequence;
    private final Weights weights;
    private int room;

    public TableOrders() {
        graph = new Graph();
        factors = new Factors(graph);
        sequence = new Sequence(graph);
        weights = new Weights(graph, factors);
        room = MOST_MEMORY;
    }

    public int name(int n) {
        if (n < LEAST_VALUES || n > MOST_VALUES) {
            return OUTSIDE;
        }
        if (graph.names >= MOST_NAMES || graph.states * n > MOST_STATES) {
            return NO_ROOM;
        }
        sequence.forget();
        weights.forget();
        return graph.addName(n);
    }

    public int factor(int set) {
        if (!graph.knowsAll(set)) {
            return UNKNOWN;
        }
        if (Integer.bitCount(set) > MOST_NAMES_OF_FACTOR) {
            return OUTSIDE;
        }
        // Each factor has a copy, so that the limit of copies holds for the factors too.
        if (factors.copiesInAll >= MOST_COPIES) {
            return NO_ROOM;
        }
        sequence.forget();
        weights.forget();
        graph.join(set);
        return factors.add(set);
    }

    public int put(int factor, int entry, int v) {
        Factor changed = factors.numbered(factor);
        if (changed == null) {
            return UNKNOWN;
        }
        if (entry < 0 || entry >= changed.cells || v < 0 || v > MOST_ENTRY) {
            return OUTSIDE;
        }
        weights.forget();
        return changed.setEntry(entry, v);
    }

    public int copies(int factor, int n) {
        Factor changed = factors.numbered(factor);
        if (changed == null) {
            return UNKNOWN;
        }
        if (n < 1 || n > MOST_COPIES_OF_FACTOR) {
            return OUTSIDE;
        }
        if (factors.copiesInAll - changed.times + n > MOST_COPIES) {
            return NO_ROOM;
        }
        weights.forget();
        return factors.setCopies(changed, n);
    }

    public int evidence(int name, int value) {
        if (!graph.knows(name)) {
            return UNKNOWN;
        }
        if (value != NONE && !graph.hasValue(name, value)) {
            return OUTSIDE;
        }
        weights.forget();
        int before = weights.bound[name];
        weights.bound[name] = value;
        return before;
    }

    public int memory(int n) {
        if (n < 1 || n > MOST_MEMORY) {
            return OUTSIDE;
        }
        int before = room;
        room = n;
        return before;
    }

    public int place(int i, int name) {
        if (i < 0 || i >= MOST_NAMES) {
            return OUTSIDE;
        }
        if (!graph.knows(name)) {
            return UNKNOWN;
        }
        int before = sequence.places[i];
        sequence.places[i] = name;
        return before;
    }

    public int order(int kind) {
        if (kind < BY_NUMBERS || kind > BEST_OF_ALL) {
            return OUTSIDE;
        }
        if (kind == BY_PLACES && !sequence.placesHaveEachOnce()) {
            return NOT_SO;
        }
        sequence.arrange(kind);
        return sequence.width;
    }

    public int taken(int i, int what) {
        if (!graph.knows(i)) {
            return UNKNOWN;
        }
        sequence.refresh();
        switch (what) {
            case 0:
                return sequence.nameAt[i];
            case 1:
                return sequence.bagAt[i];
            case 2:
                return sequence.parentOf(i);
            case 3:
                return graph.cellsOf(sequence.bagAt[i]);
            default:
                return OUTSIDE;
        }
    }

    public int told(int what) {
        switch (what) {
            case 0:
                return graph.names;
            case 1:
                return factors.count;
            case 2:
                return factors.copiesInAll;
            case 3:
                return graph.states;
            case 4:
                return graph.pairs();
            default:
                return toldOfOrder(what);
        }
    }

    public long total() {
        if (lacksMemory()) {
            return NO_ROOM;
        }
        weights.refresh();
        return weights.sum;
    }

    public long share(int set, int number, int what) {
        if (!graph.knowsAll(set)) {
            return UNKNOWN;
        }
        if (number < 0 || number >= graph.cellsOf(set) || what < 0 || what > 1) {
            return OUTSIDE;
        }
        if (lacksMemory()) {
            return NO_ROOM;
        }
        weights.refresh();
        if (weights.sum <= 0) {
            return NOT_SO;
        }
        weights.gatherWhere(set, number);
        long divisor = commonDivisor(weights.gatheredSum, weights.sum);
        if (divisor <= 0) {
            return NOT_SO;
        }
        return (what == 0 ? weights.gatheredSum : weights.sum) / divisor;
    }

    public long greatest() {
        if (lacksMemory()) {
            return NO_ROOM;
        }
        weights.refresh();
        return weights.ranked > 0 ? weights.rankWeights[0] : 0;
    }

    public int best(int name) {
        if (!graph.knows(name)) {
            return UNKNOWN;
        }
        if (lacksMemory()) {
            return NO_ROOM;
        }
        weights.refresh();
        return weights.ranked > 0 ? graph.valueIn(weights.rankStates[0], name) : NOT_SO;
    }

    public long rank(int k, int name) {
        if (name != NONE && !graph.knows(name)) {
            return UNKNOWN;
        }
        if (k < 0 || k >= MOST_RANKS) {
            return OUTSIDE;
        }
        if (lacksMemory()) {
            return NO_ROOM;
        }
        weights.refresh();
        if (k >= weights.ranked) {
            return NOT_SO;
        }
        return name == NONE ? weights.rankWeights[k] : graph.valueIn(weights.rankStates[k], name);
    }

    public int support() {
        if (lacksMemory()) {
            return NO_ROOM;
        }
        weights.refresh();
        return weights.supported;
    }

    public int among(int name, int value) {
        if (!graph.knows(name)) {
            return UNKNOWN;
        }
        if (!graph.hasValue(name, value)) {
            return OUTSIDE;
        }
        if (lacksMemory()) {
            return NO_ROOM;
        }
        weights.refresh();
        weights.gatherWhere(1 << name, value);
        return weights.gatheredStates;
    }

    public int drawn(long u, int name) {
        if (!graph.knows(name)) {
            return UNKNOWN;
        }
        if (u < 0) {
            return OUTSIDE;
        }
        if (lacksMemory()) {
            return NO_ROOM;
        }
        weights.refresh();
        return u < weights.sum ? graph.valueIn(weights.stateAbove(u), name) : NOT_SO;
    }

    public int apart(int a, int b, int set) {
        if (!graph.knows(a) || !graph.knows(b) || !graph.knowsAll(set)) {
            return UNKNOWN;
        }
        int ends = 1 << a | 1 << b;
        if ((ends & set) != 0) {
            return 1;
        }
        return (graph.reached(a, ~set) & 1 << b) == 0 ? 1 : 0;
    }

    public long weight(int state) {
        return state < 0 || state >= graph.states ? OUTSIDE : weights.weightOf(state);
    }

    private int toldOfOrder(int what) {
        sequence.refresh();
        switch (what) {
            case 5:
                return sequence.kind;
            case 6:
                return sequence.width;
            case 7:
                return sequence.fillInAll;
            case 8:
                return sequence.cellsInAll;
            case 9:
                return sequence.mostCells;
            default:
                return OUTSIDE;
        }
    }

    private boolean lacksMemory() {
        sequence.refresh();
        return sequence.mostCells > room;
    }

    private static long commonDivisor(long a, long b) {
        long greater = a;
        long lesser = b;
        for (int step = 0; step < MOST_DIVISIONS && lesser != 0; step++) {
            long left = greater % lesser;
            greater = lesser;
            lesser = left;
        }
        return greater;
    }

    /** The names, how many values each has, and which are neighbours. Sets of names are bits. */
    private static final class Graph {
        final int[] values = new int[MOST_NAMES];
        final int[] neighbours = new int[MOST_NAMES];
        int names;
        int states = 1;

        int addName(int count) {
            int number = names;
            if (number < MOST_NAMES) {
                values[number] = count;
                names = number + 1;
                states = states * count;
            }
            return number;
        }

        void join(int set) {
            for (int name = 0; name < names; name++) {
                if ((set & 1 << name) != 0) {
                    neighbours[name] |= set & ~(1 << name);
                }
            }
        }

        boolean knows(int name) {
            return name >= 0 && name < names;
        }

        boolean knowsAll(int set) {
            return set >= 0 && set >> names == 0;
        }

        boolean hasValue(int name, int value) {
            return value >= 0 && value < values[name];
        }

        int everyName() {
            return (1 << names) - 1;
        }

        int cellsOf(int set) {
            int cells = 1;
            for (int name = 0; name < names; name++) {
                if ((set & 1 << name) != 0) {
                    cells *= values[name];
                }
            }
            return cells;
        }

        int pairs() {
            int ends = 0;
            for (int name = 0; name < names; name++) {
                ends += Integer.bitCount(neighbours[name]);
            }
            return ends / 2;
        }

        /** The name itself and all to which a way leads that has only names of a set inside it. */
        int reached(int from, int inside) {
            int seen = neighbours[from] | 1 << from;
            int passed = 0;
            for (int step = 0; step < names; step++) {
                int open = seen & inside & ~passed;
                if (open == 0) {
                    break;
                }
                int next = Integer.bitCount((open & -open) - 1);
                passed |= 1 << next;
                seen |= neighbours[next];
            }
            return seen;
        }

        /**
         * The bag of a name when others are gone. Two names are neighbours then just if a way
         * between them goes through gone ones alone, in whatever order those went.
         */
        int bagOf(int name, int gone) {
            return reached(name, gone) & ~gone;
        }

        /** How many pairs of a bag, none of whose names is gone, are no neighbours. */
        int fillOf(int bag, int gone) {
            int ends = 0;
            for (int name = 0; name < names; name++) {
                if ((bag & 1 << name) != 0) {
                    ends += Integer.bitCount(bag & ~reached(name, gone));
                }
            }
            return ends / 2;
        }

        int valueIn(int state, int name) {
            int rest = state;
            for (int last = names - 1; last > name; last--) {
                rest = quotient(rest, values[last]);
            }
            return remainder(rest, values[name]);
        }

        static int quotient(int number, int divisor) {
            return divisor > 0 ? number / divisor : 0;
        }

        static int remainder(int number, int divisor) {
            return divisor > 0 ? number % divisor : 0;
        }
    }

    /**
     * One factor: its entries, and each entry as often as the factor has copies. Its rows are made
     * once, as long as any factor needs them; of these the first cells, or names, are in use.
     */
    private static final class Factor {
        private final int[] names = new int[MOST_NAMES_OF_FACTOR];
        private final int[] steps = new int[MOST_NAMES_OF_FACTOR];
        private final int[] entries = new int[MOST_CELLS_OF_FACTOR];
        private final int[] powers = new int[MOST_CELLS_OF_FACTOR];
        private int size;
        int cells = 1;
        int times = 1;
        /** The next factor whose last name is the same one, or null. */
        Factor next;

        Factor() {
            Arrays.fill(entries, 1);
            Arrays.fill(powers, 1);
        }

        void spanNames(int set, Graph graph) {
            for (int name = 0; name < graph.names && size < MOST_NAMES_OF_FACTOR; name++) {
                if ((set & 1 << name) != 0) {
                    names[size] = name;
                    steps[size] = cells;
                    cells *= graph.values[name];
                    size++;
                }
            }
        }

        int setEntry(int entry, int v) {
            int before = entries[entry];
            entries[entry] = v;
            powers[entry] = power(v);
            return before;
        }

        int setTimes(int n) {
            int before = times;
            times = n;
            for (int entry = 0; entry < cells; entry++) {
                powers[entry] = power(entries[entry]);
            }
            return before;
        }

        private int power(int v) {
            int product = 1;
            for (int copy = 0; copy < times; copy++) {
                product *= v;
            }
            return product;
        }

        int entryAt(int[] chosen) {
            int entry = 0;
            for (int i = 0; i < size; i++) {
                entry += chosen[names[i]] * steps[i];
            }
            return entry;
        }

        int powerAt(int[] chosen) {
            int entry = entryAt(chosen);
            return entry < cells ? powers[entry] : 0;
        }

        /** Multiplies products[from ..] for the values 0, 1, .. of the last name; chosen has 0 there. */
        void multiply(long[] products, int from, int count, int[] chosen) {
            int step = size == 0 ? 0 : steps[size - 1];
            int entry = entryAt(chosen);
            for (int v = 0; v < count && entry < cells; v++) {
                products[from + v] *= powers[entry];
                entry += step;
            }
        }
    }

    /** All factors, by number and by their last name. */
    private static final class Factors {
        private final Graph graph;
        private final Factor[] byNumber = new Factor[MOST_COPIES];
        /** At 0 the chain of the factors without names, at i + 1 of those whose last name is i. */
        private final Factor[] byLastName = new Factor[MOST_NAMES + 1];
        int count;
        int copiesInAll;

        Factors(Graph graph) {
            this.graph = graph;
            // All are made here, so that no call makes anything; those from count on are not in use.
            for (int number = 0; number < MOST_COPIES; number++) {
                byNumber[number] = new Factor();
            }
        }

        int add(int set) {
            int number = count;
            Factor added = number < MOST_COPIES ? byNumber[number] : null;
            if (added != null) {
                int chain = afterLastName(set);
                added.spanNames(set, graph);
                added.next = byLastName[chain];
                byLastName[chain] = added;
                count = number + 1;
                copiesInAll++;
            }
            return number;
        }

        private static int afterLastName(int set) {
            int after = 0;
            for (int name = 0; name < MOST_NAMES; name++) {
                if ((set & 1 << name) != 0) {
                    after = name + 1;
                }
            }
            return after;
        }

        Factor numbered(int number) {
            return number < 0 || number >= count ? null : byNumber[number];
        }

        int setCopies(Factor changed, int n) {
            int before = changed.setTimes(n);
            copiesInAll += n - before;
            return before;
        }

        long productWithoutNames() {
            long product = 1;
            for (Factor each = byLastName[0]; each != null; each = each.next) {
                product *= each.powers[0];
            }
            return product;
        }

        /** Multiplies products[from ..] by all factors whose last name is the one told. */
        void multiplyLast(int name, long[] products, int from, int[] chosen) {
            int values = graph.values[name];
            for (Factor each = byLastName[name + 1]; each != null; each = each.next) {
                each.multiply(products, from, values, chosen);
            }
        }

        long productAt(int[] chosen) {
            long product = 1;
            for (int number = 0; number < count; number++) {
                Factor each = numbered(number);
                product *= each == null ? 1 : each.powerAt(chosen);
            }
            return product;
        }
    }

    /** The order in which names are taken out, and the bags that come of it. */
    private static final class Sequence {
        private final Graph graph;
        private final Search search;
        /** The names as told for an order by places, or NONE. */
        final int[] places = new int[MOST_NAMES];
        final int[] nameAt = new int[MOST_NAMES];
        final int[] bagAt = new int[MOST_NAMES];
        int kind;
        int width;
        int fillInAll;
        int cellsInAll;
        int mostCells;
        private boolean known;

        Sequence(Graph graph) {
            this.graph = graph;
            search = new Search(graph);
            Arrays.fill(places, NONE);
        }

        boolean placesHaveEachOnce() {
            int seen = 0;
            for (int i = 0; i < graph.names; i++) {
                if (places[i] != NONE) {
                    seen |= 1 << places[i];
                }
            }
            return seen == graph.everyName();
        }

        /** A name or a factor came: what was found before holds no more. */
        void forget() {
            known = false;
            search.forget();
        }

        /** Without an order that holds, the order is by numbers. */
        void refresh() {
            if (known) {
                return;
            }
            kind = BY_NUMBERS;
            for (int i = 0; i < graph.names; i++) {
                nameAt[i] = i;
            }
            takeAllOut();
        }

        void arrange(int newKind) {
            kind = newKind;
            if (kind == BEST_OF_ALL) {
                search.find();
            }
            int gone = 0;
            for (int i = 0; i < graph.names; i++) {
                nameAt[i] = chosenAt(i, gone);
                gone |= 1 << nameAt[i];
            }
            takeAllOut();
        }

        private int chosenAt(int i, int gone) {
            switch (kind) {
                case BY_NUMBERS:
                    return i;
                case BY_PLACES:
                    return places[i];
                case BEST_OF_ALL:
                    return search.found[i];
                default:
                    return cheapest(gone);
            }
        }

        private int cheapest(int gone) {
            int chosen = 0;
            int least = Integer.MAX_VALUE;
            for (int name = 0; name < graph.names; name++) {
                int cost = (gone & 1 << name) != 0 ? least : costOf(name, gone);
                if (cost < least) {
                    least = cost;
                    chosen = name;
                }
            }
            return chosen;
        }

        private int costOf(int name, int gone) {
            int bag = graph.bagOf(name, gone);
            switch (kind) {
                case BY_NEIGHBOURS:
                    return Integer.bitCount(bag);
                case BY_FILL:
                    return graph.fillOf(bag, gone);
                case BY_CELLS:
                default:
                    return graph.cellsOf(bag);
            }
        }

        private void takeAllOut() {
            width = -1;
            fillInAll = 0;
            cellsInAll = 0;
            mostCells = 0;
            int gone = 0;
            for (int i = 0; i < graph.names; i++) {
                int bag = graph.bagOf(nameAt[i], gone);
                int cells = graph.cellsOf(bag);
                bagAt[i] = bag;
                width = Math.max(width, Integer.bitCount(bag) - 1);
                fillInAll += graph.fillOf(bag, gone);
                cellsInAll += cells;
                mostCells = Math.max(mostCells, cells);
                gone |= 1 << nameAt[i];
            }
            known = true;
        }

        int parentOf(int i) {
            for (int later = i + 1; later < graph.names; later++) {
                if ((bagAt[i] & 1 << nameAt[later]) != 0) {
                    return later;
                }
            }
            return NONE;
        }
    }

    /**
     * The best of all orders. What a bag is depends only on which names are gone, so that the best
     * end of an order is looked for once for each set of gone names.
     */
    private static final class Search {
        // More than the cells of all bags of any order, and far from an int's end.
        private static final int TOO_MANY = 1 << 28;

        private final Graph graph;
        final int[] found = new int[MOST_NAMES];
        /** The cells of each set of names; those of a set stay when more names come. */
        private final int[] cells = new int[MOST_SETS];
        private final int[] least = new int[MOST_SETS];
        /** For how many sets the cells have been counted. */
        private int counted;
        private boolean known;

        Search(Graph graph) {
            this.graph = graph;
        }

        void forget() {
            known = false;
        }

        void find() {
            if (!known) {
                countCells();
                int width = leastWidth();
                countLeastCells(width);
                follow(width);
                known = true;
            }
        }

        private void countCells() {
            int sets = graph.everyName() + 1;
            for (; counted < sets; counted++) {
                cells[counted] = graph.cellsOf(counted);
            }
        }

        private int leastWidth() {
            int all = graph.everyName();
            least[all] = -1;
            for (int gone = all - 1; gone >= 0; gone--) {
                int best = MOST_NAMES;
                for (int name = 0; name < graph.names; name++) {
                    int then = gone | 1 << name;
                    if (then != gone && least[then] < best) {
                        int own = Integer.bitCount(graph.bagOf(name, gone)) - 1;
                        best = Math.min(best, Math.max(own, least[then]));
                    }
                }
                least[gone] = best;
            }
            return least[0];
        }

        private void countLeastCells(int width) {
            int all = graph.everyName();
            least[all] = 0;
            for (int gone = all - 1; gone >= 0; gone--) {
                int best = TOO_MANY;
                for (int name = 0; name < graph.names; name++) {
                    int then = gone | 1 << name;
                    if (then != gone && least[then] < best) {
                        best = Math.min(best, cellsFrom(name, gone, width));
                    }
                }
                least[gone] = best;
            }
        }

        /** The fewest cells of all orders that go on with a name, within a width. */
        private int cellsFrom(int name, int gone, int width) {
            int bag = graph.bagOf(name, gone);
            boolean tooWide = Integer.bitCount(bag) - 1 > width;
            return tooWide ? TOO_MANY : cells[bag] + least[gone | 1 << name];
        }

        private void follow(int width) {
            int gone = 0;
            for (int i = 0; i < graph.names; i++) {
                for (int name = 0; name < graph.names; name++) {
                    boolean left = (gone & 1 << name) == 0;
                    if (left && cellsFrom(name, gone, width) == least[gone]) {
                        found[i] = name;
                        gone |= 1 << name;
                        break;
                    }
                }
            }
        }
    }

    /** The weights of all states, kept until the model changes, and what is read off them. */
    private static final class Weights {
        private final Graph graph;
        private final Factors factors;
        /** For each name the value to which evidence binds it, or NONE. */
        final int[] bound = new int[MOST_NAMES];
        private final int[] chosen = new int[MOST_NAMES];
        private final long[] products = new long[MOST_NAMES * MOST_VALUES];
        /** Made once for the most states; the first of it, as many as there are states, are in use. */
        private final long[] byState = new long[MOST_STATES];
        final long[] rankWeights = new long[MOST_RANKS];
        final int[] rankStates = new int[MOST_RANKS];
        int ranked;
        int supported;
        long sum;
        long gatheredSum;
        int gatheredStates;
        private boolean known;

        Weights(Graph graph, Factors factors) {
            this.graph = graph;
            this.factors = factors;
            Arrays.fill(bound, NONE);
        }

        void forget() {
            known = false;
        }

        long weightOf(int state) {
            for (int name = 0; name < graph.names; name++) {
                int value = graph.valueIn(state, name);
                if (bound[name] != NONE && bound[name] != value) {
                    return 0;
                }
                chosen[name] = value;
            }
            return factors.productAt(chosen);
        }

        void refresh() {
            if (known) {
                return;
            }
            // The walk below passes over states of weight 0.
            for (int state = 0; state < graph.states; state++) {
                byState[state] = 0;
            }
            ranked = 0;
            supported = 0;
            sum = 0;
            long product = factors.productWithoutNames();
            if (product > 0) {
                choose(0, 0, product);
            }
            known = true;
        }

        /** Goes through the states by their places; product is that of the factors settled so far. */
        private void choose(int name, int state, long product) {
            if (name >= graph.names) {
                keep(state, product);
                return;
            }
            int from = name * MOST_VALUES;
            int values = graph.values[name];
            for (int v = 0; v < values; v++) {
                products[from + v] = bound[name] == NONE || bound[name] == v ? product : 0;
            }
            chosen[name] = 0;
            factors.multiplyLast(name, products, from, chosen);
            for (int v = 0; v < values; v++) {
                if (products[from + v] > 0) {
                    chosen[name] = v;
                    choose(name + 1, state * values + v, products[from + v]);
                }
            }
        }

        private void keep(int state, long found) {
            if (state < byState.length) {
                byState[state] = found;
                sum += found;
                supported++;
                if (ranked < MOST_RANKS || found > rankWeights[MOST_RANKS - 1]) {
                    insertRank(state, found);
                }
            }
        }

        /** States come by their places, so that a later one stands behind all of its weight. */
        private void insertRank(int state, long found) {
            int at = Math.min(ranked, MOST_RANKS - 1);
            while (at > 0 && rankWeights[at - 1] < found) {
                rankWeights[at] = rankWeights[at - 1];
                rankStates[at] = rankStates[at - 1];
                at--;
            }
            rankWeights[at] = found;
            rankStates[at] = state;
            ranked = Math.min(ranked + 1, MOST_RANKS);
        }

        int stateAbove(long u) {
            long before = 0;
            for (int state = 0; state < graph.states; state++) {
                before += byState[state];
                if (before > u) {
                    return state;
                }
            }
            return 0;
        }

        /** Gathers the states in which the names of a set have the values that a number tells. */
        void gatherWhere(int set, int number) {
            int rest = number;
            for (int name = 0; name < graph.names; name++) {
                chosen[name] = NONE;
                if ((set & 1 << name) != 0) {
                    chosen[name] = Graph.remainder(rest, graph.values[name]);
                    rest = Graph.quotient(rest, graph.values[name]);
                }
            }
            gatheredSum = 0;
            gatheredStates = 0;
            gather(0, 0);
        }

        private void gather(int name, int state) {
            if (name >= graph.names) {
                if (state < byState.length && byState[state] > 0) {
                    gatheredSum += byState[state];
                    gatheredStates++;
                }
                return;
            }
            int values = graph.values[name];
            if (chosen[name] != NONE) {
                gather(name + 1, state * values + chosen[name]);
                return;
            }
            for (int v = 0; v < values; v++) {
                gather(name + 1, state * values + v);
            }
        }
    }
}
