import java.util.ArrayList;
import java.util.List;

/** All that later calls show of an object, as texts; the object is of no use afterwards. */
final class Picture {
    private final Calls calls;
    private final List<String> seen = new ArrayList<>();

    private Picture(Calls calls) {
        this.calls = calls;
    }

    static List<String> of(Calls calls) {
        Picture picture = new Picture(calls);
        picture.askAbout(true);
        picture.takeDown();
        return picture.seen;
    }

    /** Only asks, so that what an object keeps for later answers is there. */
    static void askAll(Calls calls) {
        new Picture(calls).askAbout(false);
    }

    private long look(String call) {
        long answer = calls.make(call);
        seen.add(call + " = " + answer);
        return answer;
    }

    private void askAbout(boolean closely) {
        for (int what = 4; what < 10; what++) {
            look("told " + what);
        }
        long names = look("told 0");
        look("told 1");
        look("told 2");
        long states = look("told 3");
        look("total");
        look("greatest");
        look("support");
        look("rank 0 NONE");
        look("rank 23 NONE");
        look("share 0 0 1");
        for (int name = 0; name < names && closely; name++) {
            look("taken " + name + " 0");
            look("taken " + name + " 1");
            look("among " + name + " 1");
            look("best " + name);
            look("rank 5 " + name);
            look("drawn 7 " + name);
            look("apart 0 " + name + " 4");
        }
        for (int state = 0; state < 6 && closely; state++) {
            look("weight " + state);
        }
        look("weight " + (states - 1));
    }

    /** What calls that change something answer: what was there before them. */
    private void takeDown() {
        long names = calls.make("told 0");
        long factors = calls.make("told 1");
        look("order 1");
        look("taken 0 0");
        look("memory 65536");
        look("order 5");
        look("told 8");
        look("total");
        for (int i = 0; i < 12; i++) {
            look("place " + i + " 0");
        }
        for (int name = 0; name < names; name++) {
            look("evidence " + name + " NONE");
        }
        look("total");
        for (int factor = 0; factor < factors; factor++) {
            look("put " + factor + " 0 1");
            look("put " + factor + " 1 1");
            look("copies " + factor + " 1");
        }
        look("total");
        look("name 2");
        look("factor 1");
        look("told 3");
    }
}
