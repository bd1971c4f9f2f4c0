import java.util.ArrayList;
import java.util.List;

/**
 * A run of calls on a new object, a line for each:
 *
 * <pre>
 * names 2 3 4          name(2), name(3), name(4)
 * entries 0 5 6 7      put(0, 0, 5), put(0, 1, 6), put(0, 2, 7)
 * places 2 0 1         place(0, 2), place(1, 0), place(2, 1)
 * 16 x factor 0        factor(0), sixteen times
 * order 3              a call whose answer is not looked at
 * total -> 24          a call, and the answer that is due
 * name 5 !> -2         a refused call: the answer, and that nothing has changed behind it
 * </pre>
 */
final class Script {
    private final String title;
    private final List<String> calls = new ArrayList<>();

    Script(String title, String text) {
        this.title = title;
        for (String line : text.strip().split("\n")) {
            addLine(line.strip());
        }
    }

    private void addLine(String line) {
        String[] words = line.split(" +");
        switch (words[0]) {
            case "names":
                for (int i = 1; i < words.length; i++) {
                    calls.add("name " + words[i]);
                }
                break;
            case "entries":
                for (int i = 2; i < words.length; i++) {
                    calls.add("put " + words[1] + " " + (i - 2) + " " + words[i]);
                }
                break;
            case "places":
                for (int i = 1; i < words.length; i++) {
                    calls.add("place " + (i - 1) + " " + words[i]);
                }
                break;
            default:
                if (words.length > 2 && words[1].equals("x")) {
                    addTimes(Integer.parseInt(words[0]), line.substring(line.indexOf('x') + 2));
                } else {
                    calls.add(line);
                }
                break;
        }
    }

    private void addTimes(int times, String call) {
        for (int i = 0; i < times; i++) {
            calls.add(call);
        }
    }

    /** Makes all calls on a new object, and looks at what stands behind each refused one. */
    void check(Check check) {
        answersAreDue("", new Calls(new TableOrders()), check);
        if (isSmall()) {
            // What is due here has been found by hand: the Reference has to find it too.
            answersAreDue("the Reference: ", new Calls(new Reference()), check);
        }
        for (int i = 0; i < calls.size(); i++) {
            if (isRefused(calls.get(i))) {
                nothingChangedBy(i, check);
            }
        }
    }

    /** The Reference lists all states and tries all orders, which takes too long for many names. */
    private boolean isSmall() {
        int names = 0;
        for (String call : calls) {
            names += call.startsWith("name ") ? 1 : 0;
        }
        return names < 8;
    }

    private void answersAreDue(String who, Calls it, Check check) {
        for (int i = 0; i < calls.size(); i++) {
            String call = calls.get(i);
            long got = it.make(bare(call));
            String told = title + ": " + who + bare(call) + " (call " + (i + 1) + ")";
            if (isLookedAt(call)) {
                check.due(told, got, due(call));
            } else {
                check.holds(told + " is no refused call, but answered " + got, got >= leastRight(call));
            }
        }
    }

    /**
     * Beside an object that has had all calls but the refused one; also when both have been asked for
     * all before, or have an order that the refused call might drop.
     */
    private void nothingChangedBy(int refused, Check check) {
        for (String before : new String[] {"", "ask", "order 3"}) {
            List<String> without = picture(refused, before, "");
            List<String> with = picture(refused, before, bare(calls.get(refused)));
            String behind = title + ": behind " + bare(calls.get(refused)) + " as without it: ";
            check.due(behind + "how much can be asked", with.size(), without.size());
            for (int i = 0; i < Math.min(with.size(), without.size()); i++) {
                boolean same = with.get(i).equals(without.get(i));
                check.holds(behind + without.get(i) + ", but " + with.get(i), same);
            }
        }
    }

    private List<String> picture(int count, String before, String last) {
        Calls it = new Calls(new TableOrders());
        for (int i = 0; i < count; i++) {
            it.make(bare(calls.get(i)));
        }
        if (before.equals("ask")) {
            Picture.askAll(it);
        } else if (!before.isEmpty()) {
            it.make(before);
        }
        if (!last.isEmpty()) {
            it.make(last);
        }
        return Picture.of(it);
    }

    /** The least answer of a call that is not refused; -1 may be NONE, or a width. */
    private static int leastRight(String call) {
        return call.startsWith("evidence") || call.startsWith("place") || call.startsWith("order") ? -1 : 0;
    }

    private static boolean isRefused(String call) {
        return call.contains("!>");
    }

    private static boolean isLookedAt(String call) {
        return call.contains(">");
    }

    private static String bare(String call) {
        return call.split("[-!]>")[0].strip();
    }

    private static long due(String call) {
        String answer = call.substring(call.indexOf('>') + 1).strip();
        return answer.equals("NONE") ? TableOrders.NONE : Long.parseLong(answer);
    }
}
