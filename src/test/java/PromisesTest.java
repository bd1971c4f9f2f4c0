import java.util.ArrayList;
import java.util.List;

/** For each promise: ordinary calls, the edges that the document names, and wrong calls. */
public final class PromisesTest {
    private static final int LEAST = Integer.MIN_VALUE;
    private static final int MOST = Integer.MAX_VALUE;

    private final Check check = new Check();

    public static void main(String[] args) {
        PromisesTest tests = new PromisesTest();
        tests.promise1NewObject();
        tests.promise2Name();
        tests.promise2NameAfterOrder();
        tests.promise3Factor();
        tests.promise3FactorAfterOrder();
        tests.promise4Put();
        tests.promise5Copies();
        tests.promise6Evidence();
        tests.promise7Memory();
        tests.promise8Place();
        tests.promise9Order();
        tests.promise9OrderByRules();
        tests.promise9OrderBestOfAll();
        tests.promise10Taken();
        tests.promise11Told();
        tests.promise12Total();
        tests.promise13Share();
        tests.promise14Greatest();
        tests.promise15Best();
        tests.promise16Rank();
        tests.promise17Support();
        tests.promise18Among();
        tests.promise19Drawn();
        tests.promise20Apart();
        tests.promise21Weight();
        tests.wrongCallsChangeNothing();
        tests.check.end();
    }

    private void due(String call, long got, long want) {
        check.due(call, got, want);
    }

    private static TableOrders withNames(int... counts) {
        TableOrders x = new TableOrders();
        for (int n : counts) {
            x.name(n);
        }
        return x;
    }

    private static void putAll(TableOrders x, int factor, int... entries) {
        for (int i = 0; i < entries.length; i++) {
            x.put(factor, i, entries[i]);
        }
    }

    /** Names 0 (2 values) and 1 (3 values), a factor over both; state (a, b) has entry a + 2 b. */
    private static TableOrders pair() {
        TableOrders x = withNames(2, 3);
        x.factor(3);
        putAll(x, 0, 1, 2, 3, 4, 5, 0);
        return x;
    }

    /** Memory that the one bag of pair() does not fit. */
    private static TableOrders pairWithoutRoom() {
        TableOrders x = pair();
        x.memory(5);
        return x;
    }

    private static TableOrders pairOfNoWeight() {
        TableOrders x = pair();
        putAll(x, 0, 0, 0, 0, 0, 0, 0);
        return x;
    }

    private void promise1NewObject() {
        due("NONE", TableOrders.NONE, -1);
        TableOrders x = new TableOrders();
        due("new: names", x.told(0), 0);
        due("new: factors", x.told(1), 0);
        due("new: copies", x.told(2), 0);
        due("new: states", x.told(3), 1);
        due("new: pairs", x.told(4), 0);
        due("new: kind", x.told(5), 0);
        due("new: width", x.told(6), -1);
        due("new: total", x.total(), 1);
        due("new: weight(0)", x.weight(0), 1);
        due("new: memory", x.memory(65536), 65536);
        due("new: no factor 0", x.put(0, 0, 1), -1);
        due("new: no name 0", x.evidence(0, 0), -1);
        TableOrders other = new TableOrders();
        other.name(2);
        due("objects share nothing", x.told(0), 0);
    }

    private void promise2Name() {
        TableOrders x = new TableOrders();
        for (int n : new int[] {1, 0, -1, 5, LEAST, MOST}) {
            due("name(" + n + ")", x.name(n), -2);
        }
        due("names after refusals", x.told(0), 0);
        due("name(2)", x.name(2), 0);
        due("name(3)", x.name(3), 1);
        due("name(4)", x.name(4), 2);
        due("states", x.told(3), 24);

        TableOrders many = new TableOrders();
        for (int i = 0; i < 12; i++) {
            due("name " + i + " of 12", many.name(2), i);
        }
        due("a 13th name", many.name(2), -4);
        due("a 13th name out of range", many.name(5), -2);
        due("states of 12", many.told(3), 4096);

        TableOrders full = withNames(4, 4, 4, 4, 4, 4, 4);
        due("states too many by 3 after 4^7 * 3", full.name(3), 7);
        due("4^7 * 3 * 2", full.name(2), -4);
        due("states kept", full.told(3), 49152);
        due("names kept", full.told(0), 8);
        TableOrders exact = withNames(4, 4, 4, 4, 4, 4, 4, 4);
        due("exactly 65536", exact.told(3), 65536);
        due("one more", exact.name(2), -4);
        due("one more, out of range", exact.name(1), -2);
    }

    private void promise2NameAfterOrder() {
        TableOrders x = withNames(2, 2);
        x.order(5);
        due("refused name keeps the order", x.name(9), -2);
        due("kind kept", x.told(5), 5);
        due("total before the name", x.total(), 4);
        x.name(2);
        due("a name makes the order 0", x.told(5), 0);
        due("the new name counts: total", x.total(), 8);
    }

    private void promise3Factor() {
        TableOrders x = withNames(2, 3, 4, 2, 2);
        due("factor(0)", x.factor(0), 0);
        due("factor(22)", x.factor(22), 1);
        due("factor again over the same", x.factor(22), 2);
        due("factor(-1)", x.factor(-1), -1);
        due("factor of least int", x.factor(LEAST), -1);
        due("factor of an unknown name", x.factor(32), -1);
        due("factor of 4 and an unknown name", x.factor(47), -1);
        due("factor of five and an unknown name", x.factor(63), -1);
        due("factor of five", x.factor(31), -2);
        due("factor of four", x.factor(15), 3);
        due("factors", x.told(1), 4);
        due("copies", x.told(2), 4);
        due("entries are 1 at first", x.total(), 96);
        due("the last entry of 48 is 1", x.put(3, 47, 0), 1);
        due("there is no 48", x.put(3, 48, 0), -2);
        due("a factor without names has one entry", x.put(0, 0, 3), 1);
        due("and no more", x.put(0, 1, 3), -2);

        TableOrders single = withNames(2, 2);
        single.factor(1);
        putAll(single, 0, 3, 5);
        due("a factor over name 0 alone", single.total(), 16);
        due("its state", single.weight(2), 5);

        TableOrders full = withNames(2);
        for (int i = 0; i < 16; i++) {
            due("factor " + i + " of 16", full.factor(1), i);
        }
        due("a 17th", full.factor(1), -4);
        due("a 17th of an unknown name", full.factor(2), -1);
        TableOrders copied = withNames(2, 2, 2, 2, 2);
        for (int i = 0; i < 5; i++) {
            copied.factor(1);
            copied.copies(i, 3);
        }
        due("the 16th copy", copied.factor(1), 5);
        due("a 17th copy", copied.factor(1), -4);
        due("a 17th copy over five", copied.factor(31), -2);
        due("six factors", copied.told(1), 6);
        copied.copies(0, 2);
        due("a copy less makes room", copied.factor(1), 6);
    }

    private void promise3FactorAfterOrder() {
        TableOrders x = withNames(2, 2);
        x.order(3);
        due("refused factor keeps the order", x.factor(4), -1);
        due("kind kept", x.told(5), 3);
        x.factor(0);
        due("a factor makes the order 0", x.told(5), 0);
        x.order(4);
        x.factor(3);
        due("its bag is the new graph's", x.taken(0, 1), 3);
    }

    private void promise4Put() {
        TableOrders x = pair();
        due("put answers what was", x.put(0, 5, 7), 0);
        due("and again", x.put(0, 5, 0), 7);
        due("put keeps 0", x.put(0, 5, 3), 0);
        due("weight has it: state (1, 2)", x.weight(5), 3);
        due("factor below 0", x.put(-1, 0, 1), -1);
        due("factor unknown", x.put(1, 0, 1), -1);
        due("factor unknown before entry", x.put(1, 99, 99), -1);
        due("factor of least int", x.put(LEAST, 0, 1), -1);
        due("entry below 0", x.put(0, -1, 1), -2);
        due("entry 6 of 6", x.put(0, 6, 1), -2);
        due("entry of most int", x.put(0, MOST, 1), -2);
        due("v 8", x.put(0, 0, 8), -2);
        due("v below 0", x.put(0, 0, -1), -2);
        due("nothing changed", x.put(0, 0, 1), 1);
        due("total follows", x.total(), 18);
        x.put(0, 5, 4);
        due("total follows again", x.total(), 19);
        // Lesser names' values step least: entry 1 is (1, 0), whose place among the states is 3.
        x.put(0, 1, 6);
        due("entry 1 is state (1, 0)", x.weight(3), 6);
        due("entry 2 is state (0, 1)", x.weight(1), 3);
    }

    private void promise5Copies() {
        TableOrders x = pair();
        due("copies answers what was", x.copies(0, 3), 1);
        due("weight is cubed", x.weight(4), 64);
        due("total is that of cubes", x.total(), 1 + 8 + 27 + 64 + 125);
        x.put(0, 0, 2);
        due("an entry put later is cubed too", x.weight(0), 8);
        due("copies(0, 2)", x.copies(0, 2), 3);
        due("weight is squared", x.weight(4), 16);
        due("weight of entry 0 is squared", x.weight(0), 4);
        due("total is that of squares", x.total(), 4 + 4 + 9 + 16 + 25);
        due("no copies", x.copies(0, 0), -2);
        due("four copies", x.copies(0, 4), -2);
        due("factor unknown", x.copies(1, 2), -1);
        due("factor unknown before n", x.copies(1, 9), -1);
        due("factor below 0", x.copies(-1, 2), -1);
        due("copies kept", x.copies(0, 1), 2);

        TableOrders full = withNames(2);
        for (int i = 0; i < 8; i++) {
            full.factor(1);
            full.copies(i, 2);
        }
        due("16 copies", full.told(2), 16);
        due("a 17th", full.copies(0, 3), -4);
        due("out of range first", full.copies(0, 4), -2);
        due("as many as before", full.copies(0, 2), 2);
        due("fewer", full.copies(0, 1), 2);
        due("16 again", full.copies(1, 3), 2);
        due("a 17th of another", full.copies(0, 2), -4);
        due("all copies", full.told(2), 16);
    }

    private void promise6Evidence() {
        TableOrders x = pair();
        due("evidence at first", x.evidence(1, 2), -1);
        due("weight elsewhere is 0", x.weight(0), 0);
        due("total of (., 2)", x.total(), 5);
        due("evidence answers what was", x.evidence(1, 0), 2);
        due("total of (., 0)", x.total(), 3);
        due("two names bound", x.evidence(0, 1), -1);
        due("total of (1, 0)", x.total(), 2);
        due("no name 2", x.evidence(2, 0), -1);
        due("no name 2 before value", x.evidence(2, 9), -1);
        due("no name -1", x.evidence(-1, 0), -1);
        due("value 2 of 2", x.evidence(0, 2), -2);
        due("value -2", x.evidence(0, -2), -2);
        due("value least", x.evidence(0, LEAST), -2);
        due("kept", x.evidence(0, -1), 1);
        due("NONE frees it", x.evidence(0, -1), -1);
        due("total of (., 0) again", x.total(), 3);
        due("evidence is nothing to the graph", x.told(4), 1);
        due("nor to bags", x.told(9), 6);
        x.name(2);
        due("a new name has none", x.evidence(2, 1), -1);
    }

    private void promise7Memory() {
        TableOrders x = pair();
        due("memory at first", x.memory(6), 65536);
        due("just enough", x.total(), 15);
        due("memory answers what was", x.memory(5), 6);
        due("too little", x.total(), -4);
        for (int n : new int[] {0, -1, 65537, LEAST, MOST}) {
            due("memory(" + n + ")", x.memory(n), -2);
        }
        due("kept", x.memory(1), 5);
        due("memory(65536)", x.memory(65536), 1);
        due("enough again", x.total(), 15);

        // The star round 0: by numbers one bag of 16 cells, with 0 last bags of 4 cells at most.
        TableOrders star = withNames(2, 2, 2, 2);
        star.factor(3);
        star.factor(5);
        star.factor(9);
        star.memory(4);
        due("by numbers it lacks memory", star.total(), -4);
        star.order(2);
        due("by another order it does not", star.total(), 16);
        star.factor(0);
        due("a factor makes the order 0 again", star.total(), -4);
        due("weight works by no order", star.weight(3), 1);
        due("apart works by no order", star.apart(1, 2, 0), 0);
    }

    private void promise8Place() {
        TableOrders x = withNames(2, 2, 2);
        due("place 0 at first", x.place(0, 2), -1);
        due("place answers which it was", x.place(0, 1), 2);
        due("place 11", x.place(11, 0), -1);
        due("place 11 again", x.place(11, 0), 0);
        due("place 12", x.place(12, 0), -2);
        due("place -1", x.place(-1, 0), -2);
        due("place 12 before the name", x.place(12, 9), -2);
        due("no name 3", x.place(0, 3), -1);
        due("NONE is no name", x.place(0, -1), -1);
        due("kept", x.place(0, 0), 1);
        due("place of least int", x.place(LEAST, 0), -2);
        due("name of most int", x.place(1, MOST), -1);
    }

    private void promise9Order() {
        TableOrders x = withNames(2, 2, 2);
        x.factor(3);
        x.factor(6);
        for (int kind : new int[] {-1, 6, LEAST, MOST}) {
            due("order(" + kind + ")", x.order(kind), -2);
        }
        due("no places told", x.order(1), -3);
        x.place(0, 1);
        x.place(1, 2);
        due("a place too few", x.order(1), -3);
        x.place(2, 1);
        x.place(3, 0);
        due("a name twice, the third too late", x.order(1), -3);
        x.order(4);
        due("refused", x.order(1), -3);
        due("the order stays", x.told(5), 4);
        x.place(2, 0);
        due("1, 2, 0", x.order(1), 2);
        due("kind 1", x.told(5), 1);
        due("first 1", x.taken(0, 0), 1);
        due("then 2", x.taken(1, 0), 2);
        due("then 0", x.taken(2, 0), 0);
        x.place(0, 0);
        x.place(2, 1);
        due("places told later do not move it", x.taken(0, 0), 1);
        due("0, 2, 1", x.order(1), 1);
        due("by numbers", x.order(0), 1);
        due("kind 0", x.told(5), 0);
        x.name(2);
        due("places do not have the new name", x.order(1), -3);
        x.place(3, 3);
        due("now they have", x.order(1), 1);
        due("kind 1 without names", new TableOrders().order(1), -1);
        due("kind 3 without names", new TableOrders().order(3), -1);
    }

    private void promise9OrderByRules() {
        // 0 - 1 - 2 - 3 - 0 with 4 beside 0: 4 has the fewest neighbours.
        TableOrders x = withNames(4, 2, 4, 4, 4);
        x.factor(3);
        x.factor(6);
        x.factor(12);
        x.factor(9);
        x.factor(17);
        due("by numbers: 0 joins 1, 3 and 4", x.order(0), 3);
        due("fewest neighbours", x.order(2), 2);
        order("fewest neighbours", x, 4, 0, 1, 2, 3);
        due("least fill", x.order(3), 2);
        order("least fill", x, 4, 0, 1, 2, 3);
        due("fewest cells", x.order(4), 2);
        order("fewest cells", x, 4, 0, 1, 2, 3);

        // A clique 0 1 2 3 (no fill) beside the path 4 - 5 - 6 (fill 1 in the middle).
        TableOrders y = withNames(2, 2, 2, 2, 4, 4, 4);
        y.factor(15);
        y.factor(48);
        y.factor(96);
        y.order(2);
        order("fewest neighbours", y, 4, 5, 6, 0, 1, 2, 3);
        y.order(3);
        order("least fill", y, 0, 1, 2, 3, 4, 5, 6);
        y.order(4);
        // 2^4 cells of the clique and 4^2 of the path's ends are as many: the least name.
        order("fewest cells", y, 0, 1, 2, 3, 4, 5, 6);
    }

    private void order(String what, TableOrders x, int... names) {
        for (int i = 0; i < names.length; i++) {
            due(what + ": place " + i, x.taken(i, 0), names[i]);
        }
    }

    private void promise9OrderBestOfAll() {
        // The least width comes before the fewest cells, and those before the first order.
        TableOrders ring = withNames(2, 4, 2, 4, 2, 4);
        for (int i = 0; i < 6; i++) {
            ring.factor(1 << i | 1 << (i + 1) % 6);
        }
        due("ring", ring.order(5), 2);
        // 1, 3 and 5 have 16 cells each between two of 2 values; 2 between 0 and 4 has 8.
        due("ring: cells", ring.told(8), 3 * 16 + 8 + 4 + 2);
        order("ring", ring, 1, 3, 2, 5, 0, 4);
        ring.factor(1 << 1 | 1 << 4);
        due("ring with a bar", ring.order(5), 2);
        // 3 joins 2 and 4; then 2 has 1 and 4, 1 has 0 and 4, 5 has 0 and 4: 16 cells each.
        due("ring with a bar: cells", ring.told(8), 4 * 16 + 4 + 2);
        order("ring with a bar", ring, 3, 2, 1, 5, 0, 4);
        TableOrders none = withNames(3, 2, 4);
        due("no factors", none.order(5), 0);
        order("no factors", none, 0, 1, 2);
        due("no factors: cells", none.told(8), 9);
        due("without names", new TableOrders().order(5), -1);

        // Twelve names in a row, with the middle one greatest.
        TableOrders row = withNames(2, 2, 2, 2, 2, 4, 2, 2, 2, 2, 2, 2);
        for (int i = 0; i < 11; i++) {
            row.factor(3 << i);
        }
        due("row", row.order(5), 1);
        due("row: cells", row.told(8), 9 * 4 + 2 * 8 + 2);
        due("row: told again", row.order(5), 1);
        row.order(0);
        due("row: by numbers", row.told(8), 9 * 4 + 2 * 8 + 2);
        row.factor(1 | 1 << 11);
        due("row closed", row.order(5), 2);
        due("row closed: the order is new", row.told(5), 5);
    }

    private void promise10Taken() {
        TableOrders x = withNames(2, 3, 4, 2);
        x.factor(3);
        x.factor(6);
        x.factor(5);
        due("without order(): by numbers", x.taken(0, 0), 0);
        due("bag of 0", x.taken(0, 1), 7);
        due("cells of it", x.taken(0, 3), 24);
        due("parent of it", x.taken(0, 2), 1);
        due("bag of 1", x.taken(1, 1), 6);
        due("cells of 1", x.taken(1, 3), 12);
        due("parent of 1", x.taken(1, 2), 2);
        due("parent of 2", x.taken(2, 2), -1);
        due("bag of 3", x.taken(3, 1), 8);
        due("parent of 3", x.taken(3, 2), -1);
        due("place -1", x.taken(-1, 0), -1);
        due("place 4", x.taken(4, 0), -1);
        due("place 4 before what", x.taken(4, 4), -1);
        due("what 4", x.taken(0, 4), -2);
        due("what -1", x.taken(0, -1), -2);
        due("what least", x.taken(3, LEAST), -2);
        due("no names", new TableOrders().taken(0, 0), -1);

        // The parent is a place, not a name: 1 - 0 - 2 taken out as 1, 2, 0.
        TableOrders y = withNames(2, 2, 2);
        y.factor(3);
        y.factor(5);
        y.place(0, 1);
        y.place(1, 2);
        y.place(2, 0);
        y.order(1);
        due("parent of 1 is at place 2", y.taken(0, 2), 2);
        due("parent of 2 is at place 2", y.taken(1, 2), 2);
        due("bag of 2", y.taken(1, 1), 5);
        due("parent of 0, the last", y.taken(2, 2), -1);
    }

    private void promise11Told() {
        // 0 - 1, 0 - 2, 0 - 3 and a factor over 1 alone.
        TableOrders x = withNames(2, 3, 2, 2);
        x.factor(3);
        x.factor(5);
        x.factor(9);
        x.factor(2);
        x.copies(3, 2);
        due("names", x.told(0), 4);
        due("factors", x.told(1), 4);
        due("copies", x.told(2), 5);
        due("states", x.told(3), 24);
        due("pairs", x.told(4), 3);
        due("kind", x.told(5), 0);
        due("width", x.told(6), 3);
        due("fill", x.told(7), 3);
        due("cells in all", x.told(8), 24 + 12 + 4 + 2);
        due("cells of the greatest", x.told(9), 24);
        x.order(2);
        due("kind 2", x.told(5), 2);
        due("width by rule", x.told(6), 1);
        due("fill by rule", x.told(7), 0);
        due("pairs are of the graph as it was", x.told(4), 3);
        for (int what : new int[] {-1, 10, LEAST, MOST}) {
            due("told(" + what + ")", x.told(what), -2);
        }
        due("no names: greatest", new TableOrders().told(9), 0);
        due("no names: all", new TableOrders().told(8), 0);
        due("no names: fill", new TableOrders().told(7), 0);

        // The bag with the most names (0 1 2: 8 cells) is not that with the most cells (3 4: 16).
        TableOrders y = withNames(2, 2, 2, 4, 4);
        y.factor(7);
        y.factor(24);
        due("width", y.told(6), 2);
        due("most cells", y.told(9), 16);
    }

    private void promise12Total() {
        due("total", pair().total(), 15);
        due("total without room", pairWithoutRoom().total(), -4);
        due("total of no weight", pairOfNoWeight().total(), 0);
        TableOrders x = withNames(4, 4, 4, 4, 4, 4, 4, 4);
        for (int i = 0; i < 16; i++) {
            x.factor(0);
            x.put(i, 0, 7);
        }
        due("the greatest of totals", x.total(), 65536L * 33232930569601L);
        due("and of weights", x.greatest(), 33232930569601L);
        due("its share of a state", x.share(255, 65535, 1), 65536);
    }

    private void promise13Share() {
        TableOrders x = pair();
        due("share of 1 = 0", x.share(2, 0, 0), 1);
        due("of", x.share(2, 0, 1), 5);
        due("share of 1 = 2", x.share(2, 2, 0), 1);
        due("of", x.share(2, 2, 1), 3);
        due("share of (1, 1), number 3", x.share(3, 3, 0), 4);
        due("of", x.share(3, 3, 1), 15);
        due("share of (0, 1), number 2", x.share(3, 2, 0), 1);
        due("of", x.share(3, 2, 1), 5);
        due("share of none is 0 / 1", x.share(3, 5, 0), 0);
        due("of", x.share(3, 5, 1), 1);
        due("share of a total of 1", new TableOrders().share(0, 0, 1), 1);
        due("share of all", x.share(0, 0, 0), 1);
        due("of", x.share(0, 0, 1), 1);
        x.evidence(1, 0);
        due("under evidence", x.share(1, 1, 0), 2);
        due("of", x.share(1, 1, 1), 3);
        due("set below 0", x.share(-1, 0, 0), -1);
        due("set of name 2", x.share(4, 0, 0), -1);
        due("set of name 2 before number", x.share(4, 9, 9), -1);
        due("number below 0", x.share(3, -1, 0), -2);
        due("number 6 of 6", x.share(3, 6, 0), -2);
        due("number 1 of no names", x.share(0, 1, 0), -2);
        due("what 2", x.share(3, 0, 2), -2);
        due("what -1", x.share(3, 0, -1), -2);
        due("no room", pairWithoutRoom().share(3, 0, 0), -4);
        due("number before no room", pairWithoutRoom().share(3, 6, 0), -2);
        due("no total", pairOfNoWeight().share(3, 0, 0), -3);
        TableOrders neither = pairOfNoWeight();
        neither.memory(5);
        due("no room before no total", neither.share(3, 0, 0), -4);
        TableOrders five = withNames(2, 2, 2, 2, 2);
        due("a set of more than four", five.share(31, 31, 1), 32);
    }

    private void promise14Greatest() {
        TableOrders x = pair();
        due("greatest", x.greatest(), 5);
        x.evidence(0, 1);
        due("greatest under evidence", x.greatest(), 4);
        x.evidence(1, 1);
        due("greatest of one state", x.greatest(), 4);
        x.put(0, 3, 0);
        due("greatest when that is 0", x.greatest(), 0);
        due("greatest of no weight", pairOfNoWeight().greatest(), 0);
        due("no room", pairWithoutRoom().greatest(), -4);
    }

    private void promise15Best() {
        TableOrders x = pair();
        due("best of 0", x.best(0), 0);
        due("best of 1", x.best(1), 2);
        // (1, 0), (0, 1) and (1, 2) weigh 7: of these (0, 1) is first.
        putAll(x, 0, 1, 7, 7, 1, 1, 7);
        due("first best of 0", x.best(0), 0);
        due("first best of 1", x.best(1), 1);
        x.evidence(0, 1);
        x.evidence(1, 1);
        due("best of one state", x.best(1), 1);
        due("no name 2", x.best(2), -1);
        due("no name -1", x.best(-1), -1);
        due("no room", pairWithoutRoom().best(0), -4);
        due("no name before no room", pairWithoutRoom().best(2), -1);
        due("no weight", pairOfNoWeight().best(0), -3);
        TableOrders neither = pairOfNoWeight();
        neither.memory(5);
        due("no room before no weight", neither.best(0), -4);
    }

    private void promise16Rank() {
        TableOrders x = pair();
        long[] ranks = {5, 4, 3, 2, 1};
        int[] ones = {2, 1, 1, 0, 0};
        int[] zeros = {0, 1, 0, 1, 0};
        for (int k = 0; k < 5; k++) {
            due("weight at rank " + k, x.rank(k, -1), ranks[k]);
            due("0 at rank " + k, x.rank(k, 0), zeros[k]);
            due("1 at rank " + k, x.rank(k, 1), ones[k]);
        }
        due("weight 0 has no rank", x.rank(5, -1), -3);
        due("no name 2", x.rank(0, 2), -1);
        due("no name -2", x.rank(0, -2), -1);
        due("no name before k", x.rank(24, 2), -1);
        due("k -1", x.rank(-1, 0), -2);
        due("k 24", x.rank(24, 0), -2);
        due("k 23", x.rank(23, 0), -3);
        due("no room", pairWithoutRoom().rank(0, 0), -4);
        due("k before no room", pairWithoutRoom().rank(24, 0), -2);
        due("no room before too few", pairWithoutRoom().rank(23, 0), -4);
        due("no weight", pairOfNoWeight().rank(0, -1), -3);

        // 32 states: 2 to the first name's value times the last name's, the greatest first.
        TableOrders y = withNames(2, 4, 4);
        y.factor(4);
        putAll(y, 0, 1, 2, 3, 4);
        for (int k = 0; k < 24; k++) {
            due("many: weight at " + k, y.rank(k, -1), 4 - k / 8);
            due("many: name 0 at " + k, y.rank(k, 0), k % 8 / 4);
            due("many: name 1 at " + k, y.rank(k, 1), k % 4);
            due("many: name 2 at " + k, y.rank(k, 2), 3 - k / 8);
        }
        due("many: k 24", y.rank(24, -1), -2);
        putAll(y, 0, 1, 1, 1, 1);
        due("all alike: name 0 at 23", y.rank(23, 0), 1);
        due("all alike: name 1 at 23", y.rank(23, 1), 1);
        due("all alike: name 2 at 23", y.rank(23, 2), 3);
    }

    private void promise17Support() {
        TableOrders x = pair();
        due("support", x.support(), 5);
        x.evidence(1, 2);
        due("support under evidence", x.support(), 1);
        due("support of no weight", pairOfNoWeight().support(), 0);
        due("no room", pairWithoutRoom().support(), -4);
        TableOrders zero = withNames(2);
        zero.factor(0);
        zero.put(0, 0, 0);
        due("support when a factor without names is 0", zero.support(), 0);
        due("support of ones", withNames(4, 4, 4, 4, 4, 4, 4, 4).support(), 65536);
    }

    private void promise18Among() {
        TableOrders x = pair();
        due("0 = 0", x.among(0, 0), 3);
        due("0 = 1", x.among(0, 1), 2);
        due("1 = 0", x.among(1, 0), 2);
        due("1 = 2", x.among(1, 2), 1);
        x.evidence(0, 1);
        due("under evidence 0 = 0", x.among(0, 0), 0);
        due("under evidence 1 = 0", x.among(1, 0), 1);
        due("no name 2", x.among(2, 0), -1);
        due("no name 2 before value", x.among(2, 9), -1);
        due("value 2 of 2", x.among(0, 2), -2);
        due("NONE is no value", x.among(0, -1), -2);
        due("no room", pairWithoutRoom().among(0, 0), -4);
        due("value before no room", pairWithoutRoom().among(1, 3), -2);
        due("no weight", pairOfNoWeight().among(0, 0), 0);
    }

    private void promise19Drawn() {
        TableOrders x = pair();
        // By their places: (0,0) 1, (0,1) 3, (0,2) 5, (1,0) 2, (1,1) 4, (1,2) 0.
        int[] edges = {1, 4, 9, 11, 15};
        int state = 0;
        for (int u = 0; u < 15; u++) {
            state += u >= edges[state] ? 1 : 0;
            due("0 drawn by " + u, x.drawn(u, 0), state / 3);
            due("1 drawn by " + u, x.drawn(u, 1), state % 3);
        }
        due("u is total", x.drawn(15, 0), -3);
        due("u is the most", x.drawn(Long.MAX_VALUE, 0), -3);
        due("u is past an int", x.drawn(1L << 32, 0), -3);
        due("u below 0", x.drawn(-1, 0), -2);
        due("u is the least", x.drawn(Long.MIN_VALUE, 0), -2);
        due("no name 2 before u", x.drawn(-1, 2), -1);
        due("no room", pairWithoutRoom().drawn(99, 0), -4);
        due("u below 0 before no room", pairWithoutRoom().drawn(-1, 0), -2);
        due("no weight", pairOfNoWeight().drawn(0, 0), -3);
        TableOrders great = withNames(4, 4);
        for (int i = 0; i < 16; i++) {
            great.factor(0);
            great.put(i, 0, 7);
        }
        due("a great u", great.drawn(33232930569601L * 7, 1), 3);
        due("a great u less 1", great.drawn(33232930569601L * 7 - 1, 1), 2);
    }

    private void promise20Apart() {
        // 0 - 1 - 2 - 3 - 0 and 4 alone.
        TableOrders x = withNames(2, 2, 2, 2, 2);
        x.factor(3);
        x.factor(6);
        x.factor(12);
        x.factor(9);
        due("both ways closed", x.apart(0, 2, 10), 1);
        due("one way open", x.apart(0, 2, 2), 0);
        due("the other way round", x.apart(2, 0, 8), 0);
        due("neighbours", x.apart(0, 1, 12), 0);
        due("neighbours, one in the set", x.apart(0, 1, 2), 1);
        due("neighbours, the other in it", x.apart(0, 1, 1), 1);
        due("no way at all", x.apart(0, 4, 0), 1);
        due("itself", x.apart(4, 4, 15), 0);
        due("itself in the set", x.apart(4, 4, 16), 1);
        due("no name a", x.apart(5, 0, 0), -1);
        due("no name b", x.apart(0, -1, 0), -1);
        due("no name in the set", x.apart(0, 1, 32), -1);
        due("set below 0", x.apart(0, 1, -1), -1);
        x.evidence(1, 0);
        due("evidence closes no way", x.apart(0, 2, 8), 0);
        x.put(1, 0, 0);
        x.order(5);
        due("nor does an order", x.apart(0, 2, 8), 0);
    }

    private void promise21Weight() {
        TableOrders x = pair();
        long[] weights = {1, 3, 5, 2, 4, 0};
        for (int state = 0; state < 6; state++) {
            due("weight(" + state + ")", x.weight(state), weights[state]);
        }
        for (int state : new int[] {-1, 6, LEAST, MOST}) {
            due("weight(" + state + ")", x.weight(state), -2);
        }
        x.evidence(0, 1);
        due("against evidence", x.weight(2), 0);
        due("with evidence", x.weight(4), 4);
        x.factor(0);
        x.put(1, 0, 6);
        due("a factor without names", x.weight(4), 24);
        due("without room", pairWithoutRoom().weight(1), 3);
    }

    // ---- that nothing changes when a call is refused

    private static TableOrders rich() {
        TableOrders x = withNames(2, 3, 2, 4);
        x.factor(3);
        x.factor(6);
        x.factor(12);
        x.factor(9);
        putAll(x, 0, 5, 1, 0, 2, 3, 4);
        putAll(x, 2, 1, 7, 2);
        for (int i = 0; i < 4; i++) {
            x.copies(i, 3);
            x.place(i, 3 - i);
        }
        x.copies(3, 2);
        x.evidence(2, 1);
        x.factor(8);
        x.factor(0);
        x.factor(1);
        x.copies(4, 3);
        x.memory(1000);
        x.order(1);
        return x;
    }

    /** All that can be asked, and what calls that change something answer, which is put back. */
    private static List<Long> picture(TableOrders x) {
        List<Long> seen = new ArrayList<>();
        for (int what = 0; what < 10; what++) {
            seen.add((long) x.told(what));
        }
        for (int i = 0; i < x.told(0); i++) {
            for (int what = 0; what < 4; what++) {
                seen.add((long) x.taken(i, what));
            }
            seen.add((long) x.best(i));
        }
        for (int state = 0; state < x.told(3); state++) {
            seen.add(x.weight(state));
        }
        for (int k = 0; k < 24; k++) {
            seen.add(x.rank(k, -1));
        }
        seen.add(x.total());
        seen.add((long) x.memory(7));
        x.memory((int) (long) seen.get(seen.size() - 1));
        for (int name = 0; name < x.told(0); name++) {
            int was = x.evidence(name, -1);
            seen.add((long) was);
            x.evidence(name, was);
        }
        for (int f = 0; f < x.told(1); f++) {
            int was = x.copies(f, 1);
            seen.add((long) was);
            x.copies(f, was);
        }
        return seen;
    }

    private void wrongCallsChangeNothing() {
        TableOrders x = rich();
        List<Long> before = picture(x);
        due("all copies are used", x.told(2), 16);
        refused(x);
        check.holds("refused calls change nothing", picture(x).equals(before));
        for (int i = 0; i < 4; i++) {
            due("place " + i + " is kept", x.place(i, 3 - i), 3 - i);
        }
        for (int i = 4; i < 12; i++) {
            due("place " + i + " is kept", x.place(i, 0), -1);
        }
    }

    private void refused(TableOrders x) {
        due("name", x.name(5), -2);
        due("factor", x.factor(16), -1);
        due("factor", x.factor(-8), -1);
        due("factor", x.factor(1), -4);
        due("put", x.put(7, 0, 0), -1);
        due("put", x.put(0, 6, 0), -2);
        due("put", x.put(0, 0, 8), -2);
        due("copies", x.copies(7, 1), -1);
        due("copies", x.copies(0, 4), -2);
        due("copies", x.copies(3, 3), -4);
        due("evidence", x.evidence(4, 0), -1);
        due("evidence", x.evidence(0, 2), -2);
        due("memory", x.memory(0), -2);
        due("place", x.place(12, 0), -2);
        due("place", x.place(4, 4), -1);
        due("order", x.order(6), -2);
        due("taken", x.taken(4, 0), -1);
        due("taken", x.taken(0, 4), -2);
        due("told", x.told(10), -2);
        due("share", x.share(16, 0, 0), -1);
        due("share", x.share(1, 2, 0), -2);
        due("best", x.best(4), -1);
        due("rank", x.rank(0, 4), -1);
        due("rank", x.rank(24, 0), -2);
        due("among", x.among(0, 2), -2);
        due("drawn", x.drawn(-1, 0), -2);
        due("drawn", x.drawn(Long.MAX_VALUE, 0), -3);
        due("apart", x.apart(0, 4, 0), -1);
        due("weight", x.weight(48), -2);
    }
}
