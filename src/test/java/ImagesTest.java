/** Promises 10 undo, 23 keep, 24 back. */
public final class ImagesTest {
    private static final Checks C = new Checks("ImagesTest");

    public static void main(String[] args) {
        undoCounts();
        undoRestores();
        undoDropsTheOldest();
        undoAfterFull();
        whatIsNoChange();
        keepAndBack();
        backIsAChange();
        imagesStay();
        C.end();
    }

    private static void undoCounts() {
        ThingMaker x = new ThingMaker();
        C.due("undo of nothing", -2, x.undo());
        x.bring(0, 0);
        x.bring(0, 1);
        C.due("undo", 1, x.undo());
        C.due("undo", 0, x.undo());
        C.due("undo of nothing", -2, x.undo());
        C.due("undo is no change", 0, x.told(7));
    }

    /** Each kind of change, undone one after the other. */
    private static void undoRestores() {
        String[] states = new String[9];
        for (int k = 0; k <= 8; k++) {
            int made = k;
            states[k] = Checks.stateAfter(x -> changes(x, made));
            C.dueTrue("change " + k + " changed something", k == 0 || !states[k].equals(states[k - 1]));
        }
        for (int k = 8; k >= 0; k--) {
            ThingMaker x = new ThingMaker();
            changes(x, 8);
            x.write(120);
            int length = x.told(6);
            for (int left = 7; left >= k; left--) {
                C.due("undo", left, x.undo());
            }
            C.due("changes", k, x.told(7));
            C.due("the text stays", length, x.told(6));
            C.dueText("state " + k, states[k], Checks.stateOf(x));
        }
    }

    /** The first so many of eight changes, one of each kind. */
    private static void changes(ThingMaker x, int count) {
        for (int k = 0; k < count; k++) {
            switch (k) {
                case 0: Checks.lay(x, "d2=3a+b"); break;
                case 1: x.allow(0, 7); break;
                case 2: x.vessel(0, 9); break;
                case 3: x.bring(7, 50); break;
                case 4: x.wish(3, 5); break;
                case 5: x.make(3, 5); break;
                case 6: x.forbid(0, 0); break;
                default: x.forget(3); break;
            }
        }
    }

    private static void undoDropsTheOldest() {
        ThingMaker x = new ThingMaker();
        for (int k = 1; k <= 29; k++) {
            x.bring(0, 1);
            C.due("changes", Math.min(k, 8), x.told(7));
        }
        for (int k = 7; k >= 5; k--) {
            C.due("undo", k, x.undo());
            C.due("store", 21 + k, x.thing(0, 0));
        }
        for (int k = 1; k <= 5; k++) {
            x.bring(0, 100);
            C.due("changes", Math.min(5 + k, 8), x.told(7));
        }
        int[] due = {426, 326, 226, 126, 26, 25, 24, 23};
        for (int k = 0; k < 8; k++) {
            C.due("undo", 7 - k, x.undo());
            C.due("store", due[k], x.thing(0, 0));
        }
        C.due("no more", -2, x.undo());
        C.due("store", 23, x.thing(0, 0));
    }

    private static void undoAfterFull() {
        ThingMaker x = new ThingMaker();
        for (int round = 0; round < 7; round++) {
            for (int k = 0; k < 11; k++) {
                x.bring(5, 1);
            }
            for (int k = 7; k >= 0; k--) {
                C.due("undo", k, x.undo());
            }
            C.due("no more", -2, x.undo());
            C.due("three are left a round", 3 * (round + 1), x.thing(5, 0));
        }
    }

    private static void whatIsNoChange() {
        ThingMaker x = Checks.with("d=a");
        x.allow(0, 1);
        int changes = x.told(7);
        x.write(32);
        x.wipe();
        x.recipe();
        x.fault(0);
        x.told(0);
        x.thing(0, 0);
        x.ingredient(3, 0, 0);
        x.substitute(0, 0);
        x.isNeeded(0, 3);
        x.share();
        x.gather(3, 5, -9);
        x.canHave(3);
        x.bestGift(3, 5);
        x.keep(0);
        x.keep(1);
        C.due("no changes", changes, x.told(7));
        x.forget(1);
        x.forget(-1);
        x.allow(0, 1);
        x.allow(0, 0);
        x.forbid(5, 0);
        x.vessel(5, 5);
        x.bring(0, 10000);
        x.wish(0, 0);
        x.wish(3, 999);
        x.make(0, 1);
        x.back(2);
        C.due("no changes by errors", changes, x.told(7));
    }

    private static void keepAndBack() {
        ThingMaker x = new ThingMaker();
        C.due("keep(-1)", -1, x.keep(-1));
        C.due("keep(2)", -1, x.keep(2));
        C.due("keep(min)", -1, x.keep(Integer.MIN_VALUE));
        C.due("keep(max)", -1, x.keep(Integer.MAX_VALUE));
        C.due("back(-1)", -1, x.back(-1));
        C.due("back(2)", -1, x.back(2));
        C.due("back(min)", -1, x.back(Integer.MIN_VALUE));
        C.due("back(max)", -1, x.back(Integer.MAX_VALUE));
        C.due("nothing kept in 0", -2, x.back(0));
        C.due("nothing kept in 1", -2, x.back(1));
        C.due("keep of nothing", 0, x.keep(1));
        C.due("nothing kept in 0 still", -2, x.back(0));
        work(x);
        C.due("keep(0)", 2, x.keep(0));
        C.due("back(1): a new state", 0, x.back(1));
        C.dueText("as new", Checks.stateAfter(), Checks.stateOf(x));
        ThingMaker y = new ThingMaker();
        y.keep(1);
        work(y);
        y.keep(0);
        y.back(1);
        C.due("back(0)", 2, y.back(0));
        C.due("the text stays", 5, y.told(6));
        C.due("ranks work", -2, y.allow(1, 5));
        C.dueText("as kept", Checks.stateAfter(ImagesTest::work), Checks.stateOf(y));
    }

    private static void work(ThingMaker x) {
        Checks.lay(x, "d2=3a+b");
        Checks.lay(x, "f=d+a");
        x.allow(0, 6);
        x.vessel(0, 9);
        x.bring(6, 5);
        x.wish(5, 3);
    }

    private static void backIsAChange() {
        ThingMaker x = Checks.with("d=a");
        x.keep(0);
        x.bring(4, 1);
        C.due("keep is no change", 2, x.told(7));
        C.due("back", 1, x.back(0));
        C.due("behind those that are recorded", 3, x.told(7));
        C.due("store", 0, x.thing(4, 0));
        C.due("undo of back", 2, x.undo());
        C.due("store", 1, x.thing(4, 0));
        C.due("undo of bring", 1, x.undo());
        C.due("undo of recipe", 0, x.undo());
        C.due("no recipes", 0, x.told(0));
        C.due("the image stays after undo", 1, x.back(0));
        C.due("again", 1, x.back(0));
        C.due("both are changes", 2, x.told(7));
        x.undo();
        x.undo();
        C.due("no recipes", 0, x.told(0));
        for (int k = 0; k < 12; k++) {
            x.back(0);
        }
        C.due("eight at most", 8, x.told(7));
    }

    private static void imagesStay() {
        ThingMaker x = new ThingMaker();
        x.bring(0, 1);
        x.keep(0);
        x.bring(0, 1);
        x.keep(1);
        x.back(0);
        C.due("image 0", 1, x.thing(0, 0));
        x.bring(0, 50);
        x.back(1);
        C.due("image 1", 2, x.thing(0, 0));
        x.bring(0, 50);
        x.back(0);
        C.due("image 0 is not touched by changes", 1, x.thing(0, 0));
        x.bring(0, 6);
        x.keep(0);
        x.bring(0, 6);
        x.back(0);
        C.due("replaced", 7, x.thing(0, 0));
        x.back(1);
        C.due("the other one is not", 2, x.thing(0, 0));
        Checks.lay(x, "a=a+a");
        x.back(0);
        C.due("the fault stays", 3, x.fault(0));
        C.due("the text stays", 5, x.told(6));
    }
}
