import java.util.ArrayDeque;
import java.util.ArrayList;
import java.util.HashSet;
import java.util.List;
import java.util.Set;
import java.util.TreeMap;

/**
 * A second making of the document, as plain and slow as it can be, with other means:
 * maps instead of rows, copies for everything, an exception for a wish that fails.
 */
final class Model {
    static final int BAD = -1, STATE = -2, FULL = -3, NONE = -9;

    private static final class Fails extends Exception {
        private static final long serialVersionUID = 1L;
    }

    private static final class Recipe {
        int yield = 1;
        final List<int[]> parts = new ArrayList<>();
    }

    private static final class World {
        final TreeMap<Integer, Recipe> recipes = new TreeMap<>();
        final TreeMap<Integer, List<Integer>> substitutes = new TreeMap<>();
        final TreeMap<Integer, Integer> vessels = new TreeMap<>();
        // The accounts: 0 store, 6 gathered, 7 made, 8 used, 9 returned, 10 brought.
        final TreeMap<Integer, TreeMap<Integer, Integer>> accounts = new TreeMap<>();
        int batches = 0;

        World copy() {
            World w = new World();
            w.recipes.putAll(recipes);
            substitutes.forEach((t, list) -> w.substitutes.put(t, new ArrayList<>(list)));
            w.vessels.putAll(vessels);
            accounts.forEach((a, row) -> w.accounts.put(a, new TreeMap<>(row)));
            w.batches = batches;
            return w;
        }

        int get(int account, int thing) {
            return accounts.getOrDefault(account, new TreeMap<>()).getOrDefault(thing, 0);
        }

        void add(int account, int thing, int n) {
            accounts.computeIfAbsent(account, a -> new TreeMap<>()).merge(thing, n, Integer::sum);
        }

        List<Integer> substitutesOf(int thing) {
            return substitutes.getOrDefault(thing, new ArrayList<>());
        }

        int all(int account) {
            int sum = 0;
            for (int t = 0; t < 20; t++) {
                sum += get(account, t);
            }
            return sum;
        }

        Set<Integer> direct(int thing) {
            Set<Integer> set = new HashSet<>();
            if (recipes.containsKey(thing)) {
                for (int[] part : recipes.get(thing).parts) {
                    set.add(part[0]);
                    set.addAll(substitutesOf(part[0]));
                }
            }
            return set;
        }

        /** The rank by going down every way; 99 if a way is longer than 8. */
        int rank(int thing, int depth) {
            if (!recipes.containsKey(thing)) {
                return 0;
            }
            if (depth > 8) {
                return 99;
            }
            int below = 0;
            for (int other : direct(thing)) {
                below = Math.max(below, rank(other, depth + 1));
            }
            return 1 + below;
        }

        boolean ranksAreGood() {
            for (int t = 0; t < 20; t++) {
                if (rank(t, 0) > 8) {
                    return false;
                }
            }
            return true;
        }

        boolean needs(int other, int thing) {
            for (int d : direct(other)) {
                if (d == thing || needs(d, thing)) {
                    return true;
                }
            }
            return false;
        }
    }

    private World now = new World();
    private final ArrayDeque<World> past = new ArrayDeque<>();
    private final World[] images = new World[2];
    private String text = "";
    private int[] latestFault = null;
    private int batchesOfWish;

    // ---- the text

    int write(int code) {
        if (code < 32 || code > 126) {
            return BAD;
        }
        if (text.length() == 60) {
            return FULL;
        }
        text += (char) code;
        return text.length();
    }

    int wipe() {
        int n = text.length();
        text = "";
        return n;
    }

    int fault(int what) {
        return what != 0 && what != 1 ? BAD : latestFault == null ? NONE : latestFault[what];
    }

    /** Byte by byte, with a state; answers {thing} or {-1, kind, place}. */
    private int[] parse(Recipe recipe) {
        String state = "thing";
        String digits = "";
        int first = 0;
        int thing = -1;
        int amount = 1;
        for (int i = 0; i <= text.length(); i++) {
            char c = i < text.length() ? text.charAt(i) : 0;
            boolean digit = c >= '0' && c <= '9';
            if (!digits.isEmpty()) {
                if (digit && digits.length() == 2) {
                    return new int[] {-1, 1, i};
                }
                if (digit) {
                    digits += c;
                    continue;
                }
                int number = Integer.parseInt(digits);
                digits = "";
                if (number < 1 || number > 20) {
                    return new int[] {-1, 2, first};
                }
                if (state.equals("yield")) {
                    recipe.yield = number;
                    state = "sign";
                } else {
                    amount = number;
                    state = "letter";
                }
            }
            if (i == text.length()) {
                return state.equals("behind") ? new int[] {thing} : new int[] {-1, 4, i};
            }
            if (c == ' ') {
                continue;
            }
            boolean letter = c >= 'a' && c <= 't';
            if (state.equals("thing") && letter) {
                thing = c - 'a';
                state = "yield";
            } else if ((state.equals("yield") || state.equals("amount")) && digit) {
                digits = "" + c;
                first = i;
            } else if ((state.equals("yield") || state.equals("sign")) && c == '=') {
                state = "amount";
            } else if ((state.equals("amount") || state.equals("letter")) && letter) {
                for (int[] part : recipe.parts) {
                    if (part[0] == c - 'a') {
                        return new int[] {-1, 3, i};
                    }
                }
                if (recipe.parts.size() == 5) {
                    return new int[] {-1, 3, i};
                }
                recipe.parts.add(new int[] {c - 'a', amount});
                amount = 1;
                state = "behind";
            } else if (state.equals("behind") && c == '+') {
                state = "amount";
            } else {
                return new int[] {-1, 1, i};
            }
        }
        throw new IllegalStateException();
    }

    // ---- changes

    private int change(World next, int answer) {
        past.addLast(now);
        if (past.size() > 8) {
            past.removeFirst();
        }
        now = next;
        return answer;
    }

    private static boolean no(int thing) {
        return thing < 0 || thing > 19;
    }

    int recipe() {
        Recipe r = new Recipe();
        int[] read = parse(r);
        if (read.length > 1) {
            latestFault = new int[] {read[1], read[2]};
            return STATE;
        }
        World w = now.copy();
        w.recipes.put(read[0], r);
        return w.ranksAreGood() ? change(w, w.rank(read[0], 0)) : STATE;
    }

    int forget(int thing) {
        if (no(thing)) {
            return BAD;
        }
        World w = now.copy();
        Recipe r = w.recipes.remove(thing);
        return r == null ? STATE : change(w, r.yield);
    }

    int allow(int thing, int substitute) {
        if (no(thing) || no(substitute) || thing == substitute) {
            return BAD;
        }
        World w = now.copy();
        List<Integer> list = w.substitutes.computeIfAbsent(thing, t -> new ArrayList<>());
        if (list.contains(substitute)) {
            return STATE;
        }
        if (list.size() == 3) {
            return FULL;
        }
        list.add(substitute);
        return w.ranksAreGood() ? change(w, list.size()) : STATE;
    }

    int forbid(int thing, int k) {
        if (no(thing) || k < 0 || k >= now.substitutesOf(thing).size()) {
            return BAD;
        }
        World w = now.copy();
        int removed = w.substitutes.get(thing).remove(k);
        return change(w, removed);
    }

    int vessel(int thing, int vessel) {
        if (no(thing) || (vessel != NONE && no(vessel)) || thing == vessel) {
            return BAD;
        }
        if (vessel != NONE && (now.vessels.containsKey(vessel) || now.vessels.containsValue(thing))) {
            return STATE;
        }
        World w = now.copy();
        Integer before = vessel == NONE ? w.vessels.remove(thing) : w.vessels.put(thing, vessel);
        return change(w, before == null ? NONE : before);
    }

    int bring(int thing, int amount) {
        if (no(thing) || amount < -9999 || amount > 9999) {
            return BAD;
        }
        int there = now.get(0, thing);
        int moved = amount < 0 ? -Math.min(there, -amount) : amount;
        if (there + moved > 99999) {
            return FULL;
        }
        World w = now.copy();
        w.add(0, thing, moved);
        w.add(10, thing, moved);
        return change(w, there + moved);
    }

    int wish(int thing, int n) {
        if (no(thing) || n < 1 || n > 999) {
            return BAD;
        }
        World w = wished(now, thing, n);
        return w == null ? FULL : change(w, w.all(6) - now.all(6));
    }

    int make(int thing, int batches) {
        if (no(thing) || batches < 1 || batches > 99) {
            return BAD;
        }
        if (!now.recipes.containsKey(thing)) {
            return STATE;
        }
        World w = now.copy();
        batchesOfWish = 0;
        try {
            batch(w, thing, batches);
        } catch (Fails f) {
            return FULL;
        }
        int gathered = w.all(6) - now.all(6);
        return change(w, gathered);
    }

    int undo() {
        if (past.isEmpty()) {
            return STATE;
        }
        now = past.removeLast();
        return past.size();
    }

    int keep(int i) {
        if (i != 0 && i != 1) {
            return BAD;
        }
        images[i] = now.copy();
        return now.recipes.size();
    }

    int back(int i) {
        if (i != 0 && i != 1) {
            return BAD;
        }
        return images[i] == null ? STATE : change(images[i].copy(), images[i].recipes.size());
    }

    // ---- making

    /** The world in which the wish came true, null if it fails. */
    private World wished(World from, int thing, int n) {
        World w = from.copy();
        batchesOfWish = 0;
        try {
            int missing = n - w.get(0, thing);
            if (missing > 0 && w.recipes.containsKey(thing)) {
                batch(w, thing, batchesFor(w, thing, missing));
            } else if (missing > 0) {
                comeIn(w, 6, thing, missing);
            }
        } catch (Fails f) {
            return null;
        }
        return w;
    }

    private static int batchesFor(World w, int thing, int missing) {
        int batches = 0;
        while (batches * w.recipes.get(thing).yield < missing) {
            batches++;
        }
        return batches;
    }

    private static void comeIn(World w, int account, int thing, int n) throws Fails {
        w.add(0, thing, n);
        w.add(account, thing, n);
        if (w.get(0, thing) > 99999) {
            throw new Fails();
        }
    }

    private void batch(World w, int thing, int batches) throws Fails {
        batchesOfWish += batches;
        if (batchesOfWish > 500) {
            throw new Fails();
        }
        for (int[] part : w.recipes.get(thing).parts) {
            take(w, part[0], part[1] * batches);
        }
        comeIn(w, 7, thing, w.recipes.get(thing).yield * batches);
        w.batches += batches;
    }

    private void take(World w, int thing, int n) throws Fails {
        List<Integer> order = new ArrayList<>();
        order.add(thing);
        order.addAll(w.substitutesOf(thing));
        int missing = n;
        for (int t : order) {
            int used = Math.min(missing, w.get(0, t));
            use(w, t, used);
            missing -= used;
        }
        if (missing == 0) {
            return;
        }
        for (int t : order) {
            if (w.recipes.containsKey(t)) {
                batch(w, t, batchesFor(w, t, missing));
                use(w, t, missing);
                return;
            }
        }
        comeIn(w, 6, thing, missing);
        use(w, thing, missing);
    }

    private static void use(World w, int thing, int n) throws Fails {
        w.add(0, thing, -n);
        w.add(8, thing, n);
        if (w.vessels.containsKey(thing) && n > 0) {
            comeIn(w, 9, w.vessels.get(thing), n);
        }
    }

    // ---- what is told

    int told(int what) {
        switch (what) {
            case 0: return now.recipes.size();
            case 1: return now.all(0);
            case 2: return now.all(6);
            case 3: return now.batches;
            case 4:
                int greatest = 0;
                for (int t = 0; t < 20; t++) {
                    greatest = Math.max(greatest, now.rank(t, 0));
                }
                return greatest;
            case 5:
                int set = 0;
                for (int t : now.recipes.keySet()) {
                    set += 1 << t;
                }
                return set;
            case 6: return text.length();
            case 7: return past.size();
            default: return BAD;
        }
    }

    int thing(int thing, int what) {
        if (no(thing) || what < 0 || what > 10) {
            return BAD;
        }
        Recipe r = now.recipes.get(thing);
        switch (what) {
            case 1: return now.rank(thing, 0);
            case 2: return r == null ? NONE : r.yield;
            case 3: return r == null ? NONE : r.parts.size();
            case 4: return now.vessels.getOrDefault(thing, NONE);
            case 5: return now.substitutesOf(thing).size();
            default: return now.get(what, thing);
        }
    }

    int ingredient(int thing, int k, int what) {
        if (no(thing) || k < 0 || what < 0 || what > 1) {
            return BAD;
        }
        Recipe r = now.recipes.get(thing);
        return r == null || k >= r.parts.size() ? NONE : r.parts.get(k)[what];
    }

    int substitute(int thing, int k) {
        if (no(thing) || k < 0) {
            return BAD;
        }
        return k >= now.substitutesOf(thing).size() ? NONE : now.substitutesOf(thing).get(k);
    }

    int isNeeded(int thing, int other) {
        return no(thing) || no(other) ? BAD : now.needs(other, thing) ? 1 : 0;
    }

    float share() {
        float gathered = now.all(6);
        float all = now.all(6) + now.all(7);
        return all == 0 ? 0.0f : gathered / all;
    }

    // ---- what would be

    int gather(int thing, int n, int of) {
        if (no(thing) || n < 1 || n > 999 || (of != NONE && no(of))) {
            return BAD;
        }
        World w = wished(now, thing, n);
        if (w == null) {
            return FULL;
        }
        return of == NONE ? w.all(6) - now.all(6) : w.get(6, of) - now.get(6, of);
    }

    int canHave(int thing) {
        if (no(thing)) {
            return BAD;
        }
        for (int n = 999; n > 0; n--) {
            World w = wished(now, thing, n);
            if (w != null && w.all(6) == now.all(6)) {
                return n;
            }
        }
        return 0;
    }

    int bestGift(int thing, int n) {
        if (no(thing) || n < 1 || n > 999) {
            return BAD;
        }
        int least = gather(thing, n, NONE);
        if (least == FULL) {
            return FULL;
        }
        int best = NONE;
        for (int t = 0; t < 20; t++) {
            World w = now.copy();
            w.add(0, t, 1);
            World then = w.get(0, t) > 99999 ? null : wished(w, thing, n);
            if (then != null && then.all(6) - now.all(6) < least) {
                least = then.all(6) - now.all(6);
                best = t;
            }
        }
        return best;
    }
}
