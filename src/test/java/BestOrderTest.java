import java.util.ArrayList;
import java.util.List;
import java.util.Random;

/**
 * The best order of all (promise 9, kind 5): small graphs beside the Reference, which tries all
 * orders, and graphs of up to 12 names beside a search that keeps for each set of gone names, for
 * each width, the fewest cells with which an order can end.
 */
public final class BestOrderTest {
    private static final int IMPOSSIBLE = 1 << 29;

    private final Check check = new Check();

    public static void main(String[] args) {
        BestOrderTest test = new BestOrderTest();
        test.widthBeforeCells();
        test.cellsWithinTheWidthOfAll();
        for (int seed = 0; seed < 150; seed++) {
            test.smallGraph(seed);
        }
        for (int seed = 0; seed < 60; seed++) {
            test.greatGraph(seed);
        }
        test.check.end();
    }

    /** Graphs of which an order with fewer cells in all is wider: the numbers are told with them. */
    private void widthBeforeCells() {
        fixed(2, 128, new int[] {2, 4, 3, 2, 2, 2, 4, 2}, 12, 65, 194, 128, 5, 66, 104, 104, 8, 132);
        fixed(2, 146, new int[] {2, 2, 2, 3, 4, 2, 4, 3}, 24, 36, 20, 160, 28, 18, 81, 17, 130, 129);
        fixed(3, 168, new int[] {2, 2, 4, 2, 3, 2, 2, 2}, 12, 8, 133, 68, 88, 136, 3, 17, 144);
    }

    /** The first of those beside four names that are all neighbours: now the wider order is as good. */
    private void cellsWithinTheWidthOfAll() {
        int[] counts = {2, 4, 3, 2, 2, 2, 4, 2, 2, 2, 2, 2};
        int[] sets = {12, 65, 194, 128, 5, 66, 104, 104, 8, 132, 0xF00};
        TableOrders x = made(counts, sets);
        check.due("width beside four", x.order(5), 3);
        check.due("cells beside four", x.told(8), 120 + 16 + 8 + 4 + 2);
        sameAsSearch("beside four", x, counts, sets);
    }

    private void fixed(int width, int cells, int[] counts, int... sets) {
        TableOrders x = made(counts, sets);
        check.due("width", x.order(5), width);
        check.due("cells", x.told(8), cells);
        sameAsReference("fixed", x, counts, sets);
        sameAsSearch("fixed", x, counts, sets);
    }

    private void smallGraph(int seed) {
        Random random = new Random(seed);
        int[] counts = counts(random, 1 + random.nextInt(8));
        int[] sets = sets(random, counts.length);
        TableOrders x = made(counts, sets);
        x.order(5);
        sameAsReference("small " + seed, x, counts, sets);
    }

    private void greatGraph(int seed) {
        Random random = new Random(seed);
        int[] counts = counts(random, 9 + random.nextInt(4));
        int[] sets = sets(random, counts.length);
        TableOrders x = made(counts, sets);
        x.order(5);
        sameAsSearch("great " + seed, x, counts, sets);
    }

    private static int[] counts(Random random, int names) {
        int[] counts = new int[names];
        int states = 1;
        for (int name = 0; name < names; name++) {
            int left = names - 1 - name;
            int n = 2 + random.nextInt(3);
            counts[name] = (long) states * n << left <= 65536 ? n : 2;
            states *= counts[name];
        }
        return counts;
    }

    private static int[] sets(Random random, int names) {
        int[] sets = new int[random.nextInt(17)];
        int most = 2 + random.nextInt(3);
        for (int i = 0; i < sets.length; i++) {
            for (int j = 0; j < most; j++) {
                sets[i] |= 1 << random.nextInt(names);
            }
        }
        return sets;
    }

    private static TableOrders made(int[] counts, int[] sets) {
        TableOrders x = new TableOrders();
        for (int n : counts) {
            x.name(n);
        }
        for (int set : sets) {
            x.factor(set);
        }
        return x;
    }

    private void sameAsReference(String what, TableOrders x, int[] counts, int[] sets) {
        Reference due = new Reference();
        for (int n : counts) {
            due.name(n);
        }
        for (int set : sets) {
            due.factor(set);
        }
        check.due(what + ": width", x.told(6), due.order(5));
        check.due(what + ": cells", x.told(8), due.told(8));
        for (int i = 0; i < counts.length; i++) {
            check.due(what + ": place " + i, x.taken(i, 0), due.taken(i, 0));
        }
    }

    private void sameAsSearch(String what, TableOrders x, int[] counts, int[] sets) {
        List<Integer> due = new Ends(counts, sets).first();
        for (int i = 0; i < counts.length; i++) {
            check.due(what + ": place " + i, x.taken(i, 0), due.get(i));
        }
    }

    /** For each set of gone names and each size of the greatest bag: the fewest cells of an end. */
    private static final class Ends {
        private final int[] counts;
        private final int[] sets;
        private final int names;
        private final int[][] fewest;

        Ends(int[] counts, int[] sets) {
            this.counts = counts;
            this.sets = sets;
            names = counts.length;
            fewest = new int[1 << names][];
        }

        /** The names joined by factors and by gone names, by joining until nothing changes. */
        private int bag(int name, int gone) {
            int bag = 1 << name;
            int before = 0;
            while (before != bag) {
                before = bag;
                for (int set : sets) {
                    boolean met = (set & (1 << name | bag & gone)) != 0;
                    bag |= met ? set : 0;
                }
            }
            return bag & ~gone;
        }

        private int cells(int bag) {
            int cells = 1;
            for (int name = 0; name < names; name++) {
                cells *= (bag >> name & 1) == 1 ? counts[name] : 1;
            }
            return cells;
        }

        private int[] ends(int gone) {
            if (fewest[gone] != null) {
                return fewest[gone];
            }
            int[] found = new int[names + 1];
            for (int size = 0; size <= names; size++) {
                found[size] = gone == (1 << names) - 1 ? 0 : IMPOSSIBLE;
            }
            for (int name = 0; name < names; name++) {
                if ((gone >> name & 1) == 0) {
                    int bag = bag(name, gone);
                    int[] then = ends(gone | 1 << name);
                    for (int size = Integer.bitCount(bag); size <= names; size++) {
                        found[size] = Math.min(found[size], cells(bag) + then[size]);
                    }
                }
            }
            fewest[gone] = found;
            return found;
        }

        List<Integer> first() {
            int size = 0;
            while (ends(0)[size] >= IMPOSSIBLE) {
                size++;
            }
            List<Integer> order = new ArrayList<>();
            int gone = 0;
            while (order.size() < names) {
                int name = 0;
                while ((gone >> name & 1) == 1 || !goesOn(name, gone, size)) {
                    name++;
                }
                order.add(name);
                gone |= 1 << name;
            }
            return order;
        }

        private boolean goesOn(int name, int gone, int size) {
            int bag = bag(name, gone);
            int cells = cells(bag) + ends(gone | 1 << name)[size];
            return Integer.bitCount(bag) <= size && cells == ends(gone)[size];
        }
    }
}
