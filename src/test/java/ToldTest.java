/** Promises 14 told, 15 thing, 19 share. */
public final class ToldTest {
    private static final int[] NO_THINGS = {-1, 20, -9, Integer.MIN_VALUE, Integer.MAX_VALUE};
    private static final Checks C = new Checks("ToldTest");

    public static void main(String[] args) {
        told();
        thing();
        share();
        C.end();
    }

    private static void dueTold(String name, ThingMaker x, int... due) {
        for (int what = 0; what < due.length; what++) {
            C.due(name + " told(" + what + ")", due[what], x.told(what));
        }
    }

    private static void told() {
        ThingMaker x = Checks.with("d2=3a+b", "t=d");
        C.due("told(-1)", -1, x.told(-1));
        C.due("told(8)", -1, x.told(8));
        C.due("told(min)", -1, x.told(Integer.MIN_VALUE));
        C.due("told(max)", -1, x.told(Integer.MAX_VALUE));
        dueTold("two recipes", x, 2, 0, 0, 0, 2, 1 << 3 | 1 << 19, 3, 2);
        x.bring(5, 100);
        x.bring(6, 20);
        dueTold("brought", x, 2, 120, 0, 0, 2, 1 << 3 | 1 << 19, 3, 4);
        x.wish(19, 3);
        dueTold("3 t of 2 batches of d", x, 2, 124, 8, 5, 2, 1 << 3 | 1 << 19, 3, 5);
        x.forget(3);
        dueTold("one recipe", x, 1, 124, 8, 5, 1, 1 << 19, 3, 6);
        x.wish(7, 9);
        dueTold("gathered", x, 1, 133, 17, 5, 1, 1 << 19, 3, 7);
        x.undo();
        x.undo();
        x.undo();
        dueTold("undone", x, 2, 120, 0, 0, 2, 1 << 3 | 1 << 19, 3, 4);
        x.wipe();
        for (int k = 0; k < 9; k++) {
            x.bring(5, -1);
        }
        dueTold("eight at most", x, 2, 111, 0, 0, 2, 1 << 3 | 1 << 19, 0, 8);
        ThingMaker y = new ThingMaker();
        for (int k = 1; k < 20; k++) {
            Checks.lay(y, (char) ('a' + k) + "=a");
            C.due("set of made things", (2 << k) - 2, y.told(5));
            C.due("recipes", k, y.told(0));
        }
        C.due("a has the greatest rank", 1, Checks.with("a=b").told(4));
        C.due("t has the greatest rank", 2, Checks.with("a=b", "t=a").told(4));
    }

    private static void thing() {
        ThingMaker x = Checks.with("d2=3a+b", "f=d+a");
        for (int t : NO_THINGS) {
            C.due("thing(" + t + ", 0)", -1, x.thing(t, 0));
        }
        C.due("thing(0, -1)", -1, x.thing(0, -1));
        C.due("thing(0, 11)", -1, x.thing(0, 11));
        C.due("thing(0, min)", -1, x.thing(0, Integer.MIN_VALUE));
        C.due("thing(0, max)", -1, x.thing(0, Integer.MAX_VALUE));
        x.vessel(0, 19);
        x.allow(0, 2);
        x.allow(0, 4);
        x.bring(2, 2);
        x.bring(19, -4);
        x.bring(3, 1);
        x.wish(5, 2);
        // 2 f: 2 d, one of the store and one of a batch of 3 a and 1 b; 2 a. The first 2 a are c from the store.
        dueThing(x, 0, 0, 0, -9, -9, 19, 2, 3, 0, 3, 0, 0);
        dueThing(x, 1, 0, 0, -9, -9, -9, 0, 1, 0, 1, 0, 0);
        dueThing(x, 2, 0, 0, -9, -9, -9, 0, 0, 0, 2, 0, 2);
        dueThing(x, 3, 1, 1, 2, 2, -9, 0, 0, 2, 2, 0, 1);
        dueThing(x, 5, 2, 2, 1, 2, -9, 0, 0, 2, 0, 0, 0);
        dueThing(x, 19, 3, 0, -9, -9, -9, 0, 0, 0, 0, 3, 0);
        x.bring(3, -9);
        dueThing(x, 3, 0, 1, 2, 2, -9, 0, 0, 2, 2, 0, 0);
        x.bring(19, -2);
        dueThing(x, 19, 1, 0, -9, -9, -9, 0, 0, 0, 0, 3, -2);
        x.undo();
        x.undo();
        x.undo();
        dueThing(x, 0, 0, 0, -9, -9, 19, 2, 0, 0, 0, 0, 0);
        dueThing(x, 3, 1, 1, 2, 2, -9, 0, 0, 0, 0, 0, 1);
        dueThing(x, 19, 0, 0, -9, -9, -9, 0, 0, 0, 0, 0, 0);
    }

    private static void dueThing(ThingMaker x, int thing, int... due) {
        for (int what = 0; what < due.length; what++) {
            C.due("thing(" + thing + ", " + what + ")", due[what], x.thing(thing, what));
        }
        int balance = x.thing(thing, 6) + x.thing(thing, 7) - x.thing(thing, 8) + x.thing(thing, 9) + x.thing(thing, 10);
        C.due("accounts of " + thing + " add up", x.thing(thing, 0), balance);
    }

    private static void share() {
        ThingMaker x = Checks.with("d2=3a", "f=d");
        x.bring(0, 100);
        C.dueFloat("brought only", 0.0f, x.share());
        x.make(3, 3);
        C.dueFloat("batches only", 0.0f, x.share());
        x.wish(7, 5);
        C.dueFloat("5 of 11", 5.0f / 11.0f, x.share());
        x.vessel(3, 8);
        x.wish(5, 2);
        C.dueFloat("5 of 13, vessels do not count", 5.0f / 13.0f, x.share());
        x.undo();
        C.dueFloat("5 of 11 again", 5.0f / 11.0f, x.share());
        ThingMaker y = new ThingMaker();
        y.wish(0, 1);
        C.dueFloat("gathered only", 1.0f, y.share());
        y.undo();
        C.dueFloat("none", 0.0f, y.share());
        Checks.lay(y, "b3=a");
        y.wish(1, 3);
        C.dueFloat("a quarter", 0.25f, y.share());
        Checks.lay(y, "c2=a");
        y.wish(2, 2);
        C.dueFloat("2 of 7", 2.0f / 7.0f, y.share());
        C.due("no change", 4, y.told(7));
    }
}
