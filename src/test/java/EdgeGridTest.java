import java.util.ArrayList;
import java.util.List;

/**
 * In each of some states at the edge (nothing, full, without memory, without weight) each call with
 * every choice of edge numbers as its arguments: the answer, and what stands behind a call that may
 * change something, beside those of the Reference.
 */
public final class EdgeGridTest {
    private static final String[] MANY = {"least", "-65536", "-32", "-3", "-2", "-1", "0", "1", "2", "3", "4", "5", "6",
        "7", "8", "9", "10", "11", "12", "13", "15", "16", "17", "23", "24", "31", "32", "33", "63", "64", "255", "256",
        "4095", "4096", "8191", "65535", "65536", "65537", "1073741824", "most"};
    private static final String[] SOME = {"least", "-2", "-1", "0", "1", "2", "3", "4", "5", "6", "7", "8", "11", "12",
        "15", "16", "32", "most"};
    private static final String[] FEW = {"least", "-1", "0", "1", "2", "3", "5", "6", "7", "8", "16", "most"};

    private static final String[] CHANGING = {"name 1", "factor 1", "put 3", "copies 2", "evidence 2", "memory 1",
        "place 2", "order 1"};
    private static final String[] ASKING = {"taken 2", "told 1", "total 0", "share 3", "greatest 0", "best 1", "rank 2",
        "support 0", "among 2", "drawn 2", "apart 3", "weight 1"};

    private static final String PAIR = "name 2;name 3;factor 3;put 0 0 3;put 0 1 2;put 0 3 0;put 0 5 7";
    private static final String STAR = "name 2;name 3;name 4;name 2;factor 3;factor 5;factor 9;put 1 7 5;put 2 0 0";
    private static final String FIVE_TIMES_THREE = ";factor 0;factor 1;factor 2;factor 3;factor 3;factor 0"
        + ";copies 0 3;copies 1 3;copies 2 3;copies 3 3;copies 4 3";

    private static final String[] MODELS = {
        "",
        "factor 0;put 0 0 0",
        "memory 1;order 1",
        "name 2",
        "name 4;memory 3",
        "name 4;factor 1;put 0 0 0;put 0 1 0;put 0 2 0;put 0 3 0",
        PAIR,
        PAIR + ";memory 5;order 3",
        PAIR + ";memory 6;evidence 0 1;evidence 1 1",
        PAIR + ";factor 0;put 1 0 0;memory 6",
        "name 2;name 3" + FIVE_TIMES_THREE,
        STAR + ";order 5;memory 8",
        STAR + ";order 0;memory 8",
        STAR + ";place 0 3;place 1 2;place 2 1;place 3 0;order 1;copies 1 3;evidence 2 3",
        "name 2;name 2;name 2;name 2;name 2;name 2;factor 15;factor 51;factor 60;put 0 15 0;order 4",
    };

    private final Check check = new Check();
    private final String model;
    private Calls it;
    private Calls reference;
    private int asked;

    private EdgeGridTest(String model) {
        this.model = model;
    }

    public static void main(String[] args) {
        Check all = new Check();
        for (String model : MODELS) {
            all.holds("the model " + model, new EdgeGridTest(model).answersAreDue());
        }
        all.end();
    }

    private boolean answersAreDue() {
        for (String method : CHANGING) {
            for (String call : callsOf(method)) {
                makeBoth();
                same(call, call);
                lookBehind(call);
            }
        }
        makeBoth();
        for (String method : ASKING) {
            for (String call : callsOf(method)) {
                if (asked == 400) {
                    makeBoth();
                }
                asked++;
                same(call, call);
            }
        }
        return !check.failed();
    }

    private void makeBoth() {
        it = new Calls(new TableOrders());
        reference = new Calls(new Reference());
        asked = 0;
        for (String call : model.split(";")) {
            if (!call.isEmpty()) {
                same("made by " + call, call);
            }
        }
    }

    private void same(String what, String call) {
        check.due("[" + model + "] " + what, it.make(call), reference.make(call));
    }

    private void lookBehind(String call) {
        for (int what = 0; what < 10; what++) {
            same(call + ", then told " + what, "told " + what);
        }
        same(call + ", then total", "total");
        same(call + ", then rank 0", "rank 0 NONE");
        same(call + ", then drawn 0", "drawn 0 0");
        same(call + ", then weight 1", "weight 1");
        same(call + ", then memory", "memory 65536");
        same(call + ", then total", "total");
    }

    /** All calls of a method with edge numbers; the more arguments it has the fewer numbers. */
    private static List<String> callsOf(String method) {
        String[] words = method.split(" ");
        int count = Integer.parseInt(words[1]);
        String[] numbers = count == 1 ? MANY : count == 2 ? SOME : FEW;
        List<String> calls = new ArrayList<>();
        calls.add(words[0]);
        for (int i = 0; i < count; i++) {
            List<String> longer = new ArrayList<>();
            for (String call : calls) {
                for (String number : numbers) {
                    longer.add(call + " " + number);
                }
            }
            calls = longer;
        }
        return calls;
    }
}
