import java.util.Random;

/** Random runs of calls, right and wrong ones, each answer beside that of the Reference. */
public final class RandomRunsTest {
    private static final int SMALL_RUNS = 2500;
    private static final int LARGE_RUNS = 25;
    private static final int FULL_RUNS = 25;

    private final Check check = new Check();
    private final Random random;
    private final TableOrders it = new TableOrders();
    private final Reference due = new Reference();
    private final int mostNames;
    private final int mostStates;
    private final String run;
    private final StringBuilder calls = new StringBuilder();

    private RandomRunsTest(int seed, int mostNames, int mostStates) {
        this.random = new Random(seed);
        this.mostNames = mostNames;
        this.mostStates = mostStates;
        this.run = "run " + seed;
    }

    public static void main(String[] args) {
        Check all = new Check();
        for (int seed = 0; seed < SMALL_RUNS; seed++) {
            all.holds("run " + seed, new RandomRunsTest(seed, 6, 250).withSomeNames().goes(120));
        }
        for (int seed = SMALL_RUNS; seed < SMALL_RUNS + LARGE_RUNS; seed++) {
            all.holds("run " + seed, new RandomRunsTest(seed, 12, 65536).withSomeNames().goes(40));
        }
        for (int seed = 0; seed < FULL_RUNS; seed++) {
            all.holds("full run " + seed, new RandomRunsTest(seed, 12, 65536).withAllNames().goes(120));
        }
        all.end();
    }

    private RandomRunsTest withSomeNames() {
        int names = random.nextInt(mostNames + 1);
        for (int i = 0; i < names; i++) {
            addName();
        }
        return this;
    }

    /** As many names as there can be, of which the last has as many values as it can have. */
    private RandomRunsTest withAllNames() {
        for (int i = 0; i < 12; i++) {
            int n = i == 11 ? 4 : 2;
            same("name(" + n + ")", it.name(n), due.name(n));
        }
        return this;
    }

    private boolean goes(int howMany) {
        int factors = random.nextInt(8);
        for (int i = 0; i < factors; i++) {
            addFactor();
            for (int j = 0; j < 5; j++) {
                putEntry();
            }
        }
        for (int i = 0; i < howMany && !check.failed(); i++) {
            anyCall();
        }
        if (check.failed()) {
            System.out.println(run + " was: " + calls);
        }
        return !check.failed();
    }

    private void same(String call, long got, long want) {
        calls.append(call).append(" = ").append(want).append("; ");
        check.due(run + ": " + call, got, want);
    }

    // ---- arguments: mostly right ones, now and then any

    private boolean odd() {
        return random.nextInt(12) == 0;
    }

    private int oddNumber() {
        int[] odd = {-1, -2, 0, 1, 2, 3, 4, 5, 7, 8, 11, 12, 15, 16, 17, 23, 24, 31, 32, 33, 255, 256, 4095, 4096,
            65535, 65536, 65537, 1 << 12, 1 << 30, Integer.MAX_VALUE, Integer.MIN_VALUE};
        return odd[random.nextInt(odd.length)];
    }

    private int upTo(int bound) {
        return odd() ? oddNumber() : random.nextInt(Math.max(1, bound));
    }

    private int aName() {
        return upTo(it.told(0));
    }

    private int aSet(int most) {
        if (odd()) {
            return oddNumber();
        }
        int set = random.nextInt(1 << it.told(0));
        while (Integer.bitCount(set) > most) {
            set &= random.nextInt(1 << it.told(0));
        }
        return set;
    }

    private int aNumber(int set) {
        int bound = 1;
        for (int name = 0; name < it.told(0); name++) {
            bound *= (set >> name & 1) == 1 ? 3 : 1;
        }
        return upTo(bound);
    }

    private long anAmount() {
        if (odd()) {
            return random.nextBoolean() ? oddNumber() : random.nextLong();
        }
        long total = it.total();
        return total <= 0 ? 0 : random.nextInt(8) == 0 ? total - random.nextInt(2)
            : (long) (random.nextDouble() * total);
    }

    // ---- calls

    private void addName() {
        int n = odd() ? oddNumber() : 2 + random.nextInt(3);
        boolean room = it.told(0) < mostNames && it.told(3) * 4L <= mostStates || mostStates == 65536;
        if (room || n < 2 || n > 4) {
            same("name(" + n + ")", it.name(n), due.name(n));
        }
    }

    private void addFactor() {
        int set = aSet(random.nextInt(16) == 0 ? 12 : 4);
        same("factor(" + set + ")", it.factor(set), due.factor(set));
    }

    private void putEntry() {
        int f = upTo(it.told(1));
        int entry = odd() ? oddNumber() : random.nextInt(random.nextBoolean() ? 4 : 40);
        int v = odd() ? oddNumber() : random.nextInt(8);
        same("put(" + f + ", " + entry + ", " + v + ")", it.put(f, entry, v), due.put(f, entry, v));
    }

    private void setCopies() {
        int f = upTo(it.told(1));
        int n = odd() ? oddNumber() : 1 + random.nextInt(3);
        same("copies(" + f + ", " + n + ")", it.copies(f, n), due.copies(f, n));
    }

    private void bind() {
        int name = aName();
        int value = odd() ? oddNumber() : random.nextInt(4) - 1;
        same("evidence(" + name + ", " + value + ")", it.evidence(name, value), due.evidence(name, value));
    }

    private void setMemory() {
        int n = odd() ? oddNumber() : random.nextInt(4) == 0 ? 1 + random.nextInt(100) : 65536;
        same("memory(" + n + ")", it.memory(n), due.memory(n));
    }

    private void setPlaces() {
        if (random.nextInt(3) == 0) {
            int i = odd() ? oddNumber() : random.nextInt(12);
            int name = aName();
            same("place(" + i + ", " + name + ")", it.place(i, name), due.place(i, name));
            return;
        }
        int names = it.told(0);
        int turn = random.nextInt(12);
        boolean back = random.nextBoolean();
        for (int i = 0; i < names; i++) {
            int name = (back ? names - 1 - i + turn : i + turn) % names;
            same("place(" + i + ", " + name + ")", it.place(i, name), due.place(i, name));
        }
    }

    private void setOrder() {
        int kind = odd() ? oddNumber() : random.nextInt(6);
        if (kind == 5 && it.told(0) > 7) {
            kind = 3;
        }
        same("order(" + kind + ")", it.order(kind), due.order(kind));
        for (int i = 0; i < it.told(0); i++) {
            same("taken(" + i + ", 0)", it.taken(i, 0), due.taken(i, 0));
        }
    }

    private void anyCall() {
        switch (random.nextInt(28)) {
            case 0:
                if (random.nextInt(4) == 0) {
                    addName();
                }
                break;
            case 1:
                addFactor();
                break;
            case 2:
            case 3:
            case 4:
                putEntry();
                break;
            case 5:
                setCopies();
                break;
            case 6:
                bind();
                break;
            case 7:
                setMemory();
                break;
            case 8:
                setPlaces();
                break;
            case 9:
            case 10:
                setOrder();
                break;
            case 11:
            case 12:
                readOrder();
                break;
            case 13:
                readPaths();
                break;
            default:
                readWeights();
                break;
        }
    }

    private void readOrder() {
        int i = aName();
        int what = upTo(4);
        same("taken(" + i + ", " + what + ")", it.taken(i, what), due.taken(i, what));
        int told = upTo(10);
        same("told(" + told + ")", it.told(told), due.told(told));
    }

    private void readPaths() {
        int a = aName();
        int b = aName();
        int set = aSet(12);
        same("apart(" + a + ", " + b + ", " + set + ")", it.apart(a, b, set), due.apart(a, b, set));
    }

    private void readWeights() {
        int name = aName();
        int value = upTo(3);
        int k = upTo(24);
        int set = aSet(12);
        int number = aNumber(set);
        int what = upTo(2);
        long u = anAmount();
        int state = upTo(it.told(3));
        switch (random.nextInt(10)) {
            case 0:
                same("total()", it.total(), due.total());
                break;
            case 1:
                same("share(" + set + ", " + number + ", " + what + ")", it.share(set, number, what),
                    due.share(set, number, what));
                break;
            case 2:
                same("greatest()", it.greatest(), due.greatest());
                break;
            case 3:
                same("best(" + name + ")", it.best(name), due.best(name));
                break;
            case 4:
                same("rank(" + k + ", " + name + ")", it.rank(k, name), due.rank(k, name));
                break;
            case 5:
                same("rank(" + k + ", -1)", it.rank(k, -1), due.rank(k, -1));
                break;
            case 6:
                same("support()", it.support(), due.support());
                break;
            case 7:
                same("among(" + name + ", " + value + ")", it.among(name, value), due.among(name, value));
                break;
            case 8:
                same("drawn(" + u + ", " + name + ")", it.drawn(u, name), due.drawn(u, name));
                break;
            default:
                same("weight(" + state + ")", it.weight(state), due.weight(state));
                break;
        }
    }
}
