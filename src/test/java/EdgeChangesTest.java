/** The sentences of the section CHANGES that name a case, a test for each. */
public final class EdgeChangesTest {
    private static final int A = 0, B = 1, C = 2, D = 3, H = 7, T = 19;
    private static final int STATE = -2, NONE = -9;
    private static final Checks OF = new Checks("EdgeChangesTest");

    /** One change of each kind, each of which changes something; the last one wants image 0. */
    private static final Checks.Calls[] CHANGES = {
        x -> Checks.lay(x, "d2=3a+b"),
        x -> x.allow(A, C),
        x -> x.vessel(A, T),
        x -> x.bring(C, 4),
        x -> x.wish(D, 3),
        x -> x.make(D, 2),
        x -> x.forbid(A, 0),
        x -> x.forget(D),
        x -> x.back(0)};

    public static void main(String[] args) {
        changesThatChangeNothing();
        changesAreRecorded();
        errorsAreNotRecorded();
        othersAreNotRecorded();
        eightAtMost();
        oldestIsDropped();
        undoneChangesGiveRoom();
        everythingBeforeIt();
        accountsToo();
        exceptTheText();
        exceptTheFault();
        exceptTheImages();
        undoRemovesTheLatest();
        undoIsNoChange();
        OF.end();
    }

    private static void changesThatChangeNothing() {
        ThingMaker x = OF.sentence("Some methods are called changes below (also if they change nothing)");
        x.bring(A, 0);
        OF.due("bring 0", 1, x.told(7));
        x.bring(A, -5);
        OF.due("take from nothing", 2, x.told(7));
        x.vessel(A, NONE);
        OF.due("no vessel as before", 3, x.told(7));
        x.bring(B, 9);
        x.wish(B, 9);
        OF.due("a wish that is there", 5, x.told(7));
        Checks.lay(x, "d=a");
        x.recipe();
        OF.due("the same recipe", 7, x.told(7));
        x.keep(0);
        x.back(0);
        OF.due("the same state", 8, x.told(7));
        OF.due("undone one by one", 7, x.undo());
        OF.due("the same state", 1, x.told(0));
        Checks.undo(x, 2);
        OF.due("ahead of the recipe", 0, x.told(0));
        x.vessel(A, T);
        x.vessel(A, T);
        OF.due("the same vessel", 7, x.told(7));
    }

    private static void changesAreRecorded() {
        ThingMaker x = OF.sentence("a change that returns no error code records everything before it");
        x.keep(0);
        for (int k = 0; k < CHANGES.length; k++) {
            CHANGES[k].on(x);
            OF.due("change " + k, Math.min(k + 1, 8), x.told(7));
        }
        ThingMaker y = new ThingMaker();
        OF.due("NONE is no error code", NONE, y.vessel(A, T));
        OF.due("it is recorded", 1, y.told(7));
        y.undo();
        OF.due("and undone", NONE, y.thing(A, 4));
    }

    private static void errorsAreNotRecorded() {
        ThingMaker x = OF.sentence("a change that returns no error code records everything before it");
        x.recipe();
        x.forget(A);
        x.allow(A, A);
        x.forbid(A, 0);
        x.vessel(A, A);
        x.bring(A, 10000);
        x.wish(A, 0);
        x.make(A, 1);
        x.back(0);
        OF.due("none of them", 0, x.told(7));
        OF.due("nothing to undo", STATE, x.undo());
    }

    private static void othersAreNotRecorded() {
        ThingMaker x = OF.sentence("Some methods are called changes below");
        x.bring(A, 1);
        x.write('a');
        x.fault(0);
        x.told(0);
        x.thing(A, 0);
        x.ingredient(A, 0, 0);
        x.substitute(A, 0);
        x.isNeeded(A, B);
        x.share();
        x.gather(B, 3, NONE);
        x.canHave(A);
        x.bestGift(B, 3);
        x.keep(0);
        x.wipe();
        OF.due("none of them", 1, x.told(7));
        OF.due("only the change is undone", 0, x.undo());
        OF.due("it is", 0, x.thing(A, 0));
    }

    private static void eightAtMost() {
        ThingMaker x = OF.sentence("A history of at most 8 states is kept");
        for (int k = 1; k <= 30; k++) {
            x.bring(A, 1);
            OF.due("after " + k, Math.min(k, 8), x.told(7));
        }
        for (int left = 7; left >= 0; left--) {
            OF.due("undo", left, x.undo());
        }
        OF.due("no ninth", STATE, x.undo());
        OF.due("8 of 30 were undone", 22, x.thing(A, 0));
    }

    private static void oldestIsDropped() {
        ThingMaker x = OF.sentence("if there are more than 8, the oldest one is dropped");
        for (int k = 0; k < 8; k++) {
            x.bring(A, 1);
        }
        Checks.undo(x, 8);
        OF.due("the eighth can be undone", 0, x.thing(A, 0));
        for (int k = 0; k < 9; k++) {
            x.bring(A, 1);
        }
        for (int left = 7; left >= 0; left--) {
            OF.due("undo", left, x.undo());
            OF.due("the latest ones are kept, in their order", left + 1, x.thing(A, 0));
        }
        OF.due("the ninth can't be undone", STATE, x.undo());
    }

    private static void undoneChangesGiveRoom() {
        ThingMaker x = OF.sentence("if there are more than 8, the oldest one is dropped");
        for (int k = 0; k < 10; k++) {
            x.bring(A, 1);
        }
        Checks.undo(x, 3);
        OF.due("7", 7, x.thing(A, 0));
        for (int k = 0; k < 3; k++) {
            x.bring(A, 100);
        }
        OF.due("8 again, none was dropped", 8, x.told(7));
        int[] due = {207, 107, 7, 6, 5, 4, 3, 2};
        for (int k = 0; k < 8; k++) {
            x.undo();
            OF.due("undo " + k, due[k], x.thing(A, 0));
        }
        OF.due("no more", STATE, x.undo());
    }

    private static void everythingBeforeIt() {
        OF.sentence("records everything before it");
        for (int count = 1; count <= CHANGES.length; count++) {
            int last = count - 1;
            String before = Checks.stateAfter(x -> x.keep(0), x -> changes(x, last));
            String after = Checks.stateAfter(x -> x.keep(0), x -> changes(x, last + 1));
            String undone = Checks.stateAfter(x -> x.keep(0), x -> changes(x, last + 1), x -> x.undo());
            OF.dueTrue("change " + last + " changes something", last == 8 || !before.equals(after));
            OF.dueText("change " + last + " is undone", before, undone);
        }
    }

    private static void changes(ThingMaker x, int count) {
        for (int k = 0; k < count; k++) {
            CHANGES[k].on(x);
        }
    }

    private static void accountsToo() {
        ThingMaker x = OF.sentence("records everything before it");
        Checks.lay(x, "d2=3a+b");
        x.vessel(A, T);
        x.bring(B, 2);
        x.make(D, 2);
        x.undo();
        OF.due("gathered", 0, x.told(2));
        OF.due("batches", 0, x.told(3));
        OF.due("gathered of a", 0, x.thing(A, 6));
        OF.due("made of d", 0, x.thing(D, 7));
        OF.due("used of b", 0, x.thing(B, 8));
        OF.due("came back of t", 0, x.thing(T, 9));
        OF.due("brought of b", 2, x.thing(B, 10));
        x.undo();
        OF.due("brought of b", 0, x.thing(B, 10));
        OF.dueFloat("share", 0.0f, x.share());
    }

    private static void exceptTheText() {
        ThingMaker x = OF.sentence("except the text, the latest fault and the images");
        Checks.lay(x, "d=a");
        x.wipe();
        x.write('e');
        x.undo();
        OF.due("bytes", 1, x.told(6));
        x.write('=');
        x.write('b');
        OF.due("the text goes on", 1, x.recipe());
        OF.due("of e alone", 1 << 4, x.told(5));
        x.undo();
        OF.due("the text stays", 1, x.recipe());
    }

    private static void exceptTheFault() {
        ThingMaker x = OF.sentence("except the text, the latest fault and the images");
        x.bring(A, 1);
        Checks.lay(x, "d=21a");
        x.undo();
        OF.due("kind", 2, x.fault(0));
        OF.due("place", 2, x.fault(1));
        x.bring(A, 1);
        Checks.lay(x, "d==a");
        x.bring(A, 1);
        Checks.undo(x, 2);
        OF.due("kind", 1, x.fault(0));
        OF.due("place", 2, x.fault(1));
    }

    private static void exceptTheImages() {
        ThingMaker x = OF.sentence("except the text, the latest fault and the images");
        x.bring(A, 1);
        x.keep(1);
        x.bring(A, 1);
        x.keep(0);
        Checks.undo(x, 2);
        OF.due("image 0 stays", 0, x.back(0));
        OF.due("as it was", 2, x.thing(A, 0));
        x.back(1);
        OF.due("image 1 stays", 1, x.thing(A, 0));
        x.undo();
        x.keep(1);
        x.undo();
        x.back(1);
        OF.due("what was kept later stays", 2, x.thing(A, 0));
    }

    private static void undoRemovesTheLatest() {
        ThingMaker x = OF.sentence("undo() removes the latest state and restores it");
        x.bring(H, 1);
        x.bring(H, 10);
        x.bring(H, 100);
        x.undo();
        OF.due("the latest one", 11, x.thing(H, 0));
        x.bring(H, 1000);
        x.undo();
        OF.due("the one before once more", 11, x.thing(H, 0));
        x.undo();
        OF.due("then the one before it", 1, x.thing(H, 0));
        x.undo();
        OF.due("then the first one", 0, x.thing(H, 0));
        OF.due("then none", STATE, x.undo());
        OF.due("which changes nothing", 0, x.thing(H, 0));
    }

    private static void undoIsNoChange() {
        ThingMaker x = OF.sentence("undo() removes the latest state and restores it");
        x.bring(H, 1);
        x.bring(H, 1);
        OF.due("one is left", 1, x.undo());
        OF.due("one can be undone", 1, x.told(7));
        OF.due("none is left", 0, x.undo());
        OF.due("undo can't be undone", STATE, x.undo());
    }
}
