import java.util.Random;

/** All promises: long runs of calls, drawn with fixed seeds, against the plain model. */
public final class ModelTest {
    private static final int RUNS = 600;
    private static final int CALLS = 512;
    /** The most calls of one step: those that make a text and lay its recipe. */
    private static final int MOST_OF_A_STEP = 40;
    private static final Checks C = new Checks("ModelTest");

    private final Random random;
    private final int things;
    private final ThingMaker x = new ThingMaker();
    private final Model m = new Model();
    private String name;

    private ModelTest(int seed) {
        random = new Random(seed);
        // Few things meet more often; now and then all of them.
        things = seed % 4 == 0 ? 20 : 5 + seed % 7;
    }

    public static void main(String[] args) {
        for (int seed = 1; seed <= RUNS; seed++) {
            new ModelTest(seed).run(seed);
        }
        C.end();
    }

    private void run(int seed) {
        for (int call = 0; call <= CALLS - MOST_OF_A_STEP; ) {
            name = "seed " + seed + " call " + call + " ";
            call += step();
        }
    }

    private int below(int n) {
        return random.nextInt(n);
    }

    private int thing() {
        return below(60) == 0 ? below(2) * 21 - 1 : below(things);
    }

    private int wished() {
        switch (below(12)) {
            case 0: return below(1003) - 1;
            case 1: return 990 + below(12);
            case 2: case 3: return 1 + below(120);
            default: return 1 + below(15);
        }
    }

    private int due(String call, int want, int got) {
        C.due(name + call, want, got);
        return 1;
    }

    private int step() {
        int a = thing();
        int b = thing();
        int n = wished();
        switch (below(40)) {
            case 0: case 1: case 2: case 3: return text() + due("recipe()", m.recipe(), x.recipe());
            case 4: return below(3) > 0 ? 0 : due("forget(" + a, m.forget(a), x.forget(a));
            case 5: case 6: case 7: return due("allow(" + a + ", " + b, m.allow(a, b), x.allow(a, b));
            case 8: return forbid(a);
            case 9: case 10: return vessel(a, b);
            case 11: case 12: case 13: case 14: case 15: return bring(a);
            case 16: case 17: case 18: case 19: return due("wish(" + a + ", " + n, m.wish(a, n), x.wish(a, n));
            case 20: case 21: return make(a);
            case 22: case 23: return due("undo()", m.undo(), x.undo());
            case 24: return fault();
            case 25: case 26: return told();
            case 27: case 28: return oneThing(a);
            case 29: return ingredient(a);
            case 30: return substitute(a);
            case 31: return due("isNeeded(" + a + ", " + b, m.isNeeded(a, b), x.isNeeded(a, b));
            case 32: C.dueFloat(name + "share()", m.share(), x.share()); return 1;
            case 33: case 34: return gather(a, n);
            case 35: return due("canHave(" + a, m.canHave(a), x.canHave(a));
            case 36: case 37: return due("bestGift(" + a + ", " + n, m.bestGift(a, n), x.bestGift(a, n));
            case 38: return due("keep", m.keep(n % 3), x.keep(n % 3));
            default: return due("back", m.back(n % 3), x.back(n % 3));
        }
    }

    private int forbid(int a) {
        int k = below(5) - 1;
        return due("forbid(" + a + ", " + k, m.forbid(a, k), x.forbid(a, k));
    }

    private int vessel(int a, int b) {
        int v = below(4) == 0 ? -9 : b;
        return due("vessel(" + a + ", " + v, m.vessel(a, v), x.vessel(a, v));
    }

    private int bring(int a) {
        int amount;
        switch (below(6)) {
            case 0: amount = below(20003) - 10001; break;
            case 1: amount = -below(30); break;
            case 2: amount = 9999; break;
            default: amount = below(40); break;
        }
        int calls = amount == 9999 && below(2) == 0 ? 11 : 1;
        for (int k = 0; k < calls; k++) {
            due("bring(" + a + ", " + amount, m.bring(a, amount), x.bring(a, amount));
            if (calls > 1 && k == 9) {
                amount = 9 - below(3);
            }
        }
        return calls;
    }

    private int make(int a) {
        int n = below(5) == 0 ? below(102) : 1 + below(6);
        return due("make(" + a + ", " + n, m.make(a, n), x.make(a, n));
    }

    private int fault() {
        int what = below(20) == 0 ? 2 : below(2);
        return due("fault(" + what, m.fault(what), x.fault(what));
    }

    private int told() {
        int what = below(9) + below(2) - 1;
        return due("told(" + what, m.told(what), x.told(what));
    }

    private int oneThing(int a) {
        int what = below(13) - 1;
        return due("thing(" + a + ", " + what, m.thing(a, what), x.thing(a, what));
    }

    private int ingredient(int a) {
        int k = below(7) - 1;
        int what = below(4) - 1;
        return due("ingredient(" + a + ", " + k + ", " + what, m.ingredient(a, k, what), x.ingredient(a, k, what));
    }

    private int substitute(int a) {
        int k = below(5) - 1;
        return due("substitute(" + a + ", " + k, m.substitute(a, k), x.substitute(a, k));
    }

    private int gather(int a, int n) {
        int of = below(2) == 0 ? -9 : thing();
        return due("gather(" + a + ", " + n + ", " + of, m.gather(a, n, of), x.gather(a, n, of));
    }

    /** Writes a recipe, good or bad, into both texts; answers how many calls that took. */
    private int text() {
        StringBuilder s = new StringBuilder();
        s.append((char) ('a' + below(things))).append(number()).append('=');
        int parts = 1 + below(3) + (below(3) == 0 ? below(4) : 0);
        for (int k = 0; k < parts; k++) {
            s.append(k > 0 ? "+" : "").append(number()).append((char) ('a' + below(things)));
        }
        int changes = below(4) == 0 ? 1 + below(2) : 0;
        for (int k = 0; k < changes && s.length() > 0; k++) {
            spoil(s);
        }
        int calls = 1;
        if (below(15) > 0) {
            due("wipe()", m.wipe(), x.wipe());
        }
        for (int i = 0; i < s.length(); i++) {
            due("write(" + s.charAt(i), m.write(s.charAt(i)), x.write(s.charAt(i)));
            calls++;
        }
        return calls;
    }

    private String number() {
        switch (below(8)) {
            case 0: return "" + below(23);
            case 1: return "0" + below(10);
            case 2: case 3: case 4: return "" + (1 + below(5));
            default: return below(6) == 0 ? " " : "";
        }
    }

    private void spoil(StringBuilder s) {
        String bytes = " 0129=+abutzA~ ";
        int place = below(s.length() + 1);
        if (below(3) == 0 || place == s.length()) {
            s.insert(place, bytes.charAt(below(bytes.length())));
        } else if (below(2) == 0) {
            s.deleteCharAt(place);
        } else {
            s.setCharAt(place, bytes.charAt(below(bytes.length())));
        }
    }
}
