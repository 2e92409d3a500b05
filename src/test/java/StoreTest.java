/** Promises 7 bring, 8 wish, 9 make, and how things are made. */
public final class StoreTest {
    private static final int[] NO_THINGS = {-1, 20, -9, Integer.MIN_VALUE, Integer.MAX_VALUE};
    private static final int A = 0, B = 1, C_ = 2, D = 3, E = 4, F = 5, G = 6, H = 7, K = 10, V = 19;
    private static final Checks C = new Checks("StoreTest");

    public static void main(String[] args) {
        bring();
        wishForGathered();
        wishArguments();
        wishByBatches();
        ingredientsInTheirOrder();
        substitutesFromTheStore();
        substituteMadeInPlace();
        ownSubstitutesOfTheWish();
        vessels();
        vesselAheadOfSubstitutes();
        vesselAheadOfProviding();
        vesselFromMakingIsNotCounted();
        make();
        tooManyBatches();
        storeOverflows();
        failureChangesNothing();
        C.end();
    }

    private static void amounts(String name, ThingMaker x, int thing, int store, int gathered, int made, int used) {
        C.due(name + " store of " + thing, store, x.thing(thing, 0));
        C.due(name + " gathered of " + thing, gathered, x.thing(thing, 6));
        C.due(name + " made of " + thing, made, x.thing(thing, 7));
        C.due(name + " used of " + thing, used, x.thing(thing, 8));
    }

    private static void fill(ThingMaker x, int thing) {
        Checks.fill(x, thing, 99999);
        C.due("filled", 99999, x.thing(thing, 0));
    }

    private static void bring() {
        ThingMaker x = new ThingMaker();
        for (int t : NO_THINGS) {
            C.due("bring(" + t + ", 1)", -1, x.bring(t, 1));
        }
        C.due("10000", -1, x.bring(A, 10000));
        C.due("-10000", -1, x.bring(A, -10000));
        C.due("max", -1, x.bring(A, Integer.MAX_VALUE));
        C.due("min", -1, x.bring(A, Integer.MIN_VALUE));
        C.due("no change", 0, x.told(7));
        C.due("0", 0, x.bring(A, 0));
        C.due("a change", 1, x.told(7));
        C.due("7", 7, x.bring(A, 7));
        C.due("-3", 4, x.bring(A, -3));
        C.due("more than there is", 0, x.bring(A, -5));
        C.due("7 - 3 - 4", 0, x.thing(A, 10));
        C.due("9999", 9999, x.bring(V, 9999));
        C.due("-9999", 0, x.bring(V, -9999));
        C.due("from nothing", 0, x.bring(V, -9999));
        C.due("brought of v", 0, x.thing(V, 10));
        fill(x, B);
        C.due("brought", 99999, x.thing(B, 10));
        C.due("one too many", -3, x.bring(B, 1));
        C.due("wrong amount, ahead of full", -1, x.bring(B, 10000));
        C.due("0 goes", 99999, x.bring(B, 0));
        C.due("less", 99998, x.bring(B, -1));
        C.due("two too many", -3, x.bring(B, 2));
        C.due("one goes", 99999, x.bring(B, 1));
        C.due("sum", 99999, x.told(1));
        x.wish(C_, 5);
        x.bring(C_, -3);
        C.due("taken out of what was gathered", -3, x.thing(C_, 10));
        C.due("gathered stays", 5, x.thing(C_, 6));
    }

    private static void wishForGathered() {
        ThingMaker x = new ThingMaker();
        C.due("wish", 5, x.wish(A, 5));
        amounts("wish", x, A, 5, 5, 0, 0);
        C.due("again", 0, x.wish(A, 5));
        C.due("also a change", 2, x.told(7));
        C.due("less", 0, x.wish(A, 1));
        C.due("more", 994, x.wish(A, 999));
        amounts("more", x, A, 999, 999, 0, 0);
        C.due("gathered", 999, x.told(2));
        C.due("no batches", 0, x.told(3));
        fill(x, B);
        C.due("of a full one", 0, x.wish(B, 999));
    }

    private static void wishArguments() {
        ThingMaker x = Checks.with("d=a");
        for (int t : NO_THINGS) {
            C.due("wish(" + t + ", 1)", -1, x.wish(t, 1));
        }
        C.due("0", -1, x.wish(A, 0));
        C.due("-1", -1, x.wish(A, -1));
        C.due("1000", -1, x.wish(D, 1000));
        C.due("min", -1, x.wish(D, Integer.MIN_VALUE));
        C.due("max", -1, x.wish(D, Integer.MAX_VALUE));
        C.due("no change", 1, x.told(7));
    }

    private static void wishByBatches() {
        ThingMaker x = Checks.with("d3=2a+b", "f2=d+4c");
        C.due("4 d: 2 batches", 6, x.wish(D, 4));
        amounts("d", x, D, 6, 0, 6, 0);
        amounts("a", x, A, 0, 4, 0, 4);
        amounts("b", x, B, 0, 2, 0, 2);
        C.due("batches", 2, x.told(3));
        C.due("6 d: there", 0, x.wish(D, 6));
        C.due("7 d: 1 batch", 3, x.wish(D, 7));
        C.due("store", 9, x.thing(D, 0));
        C.due("19 f: 10 batches, of 1 more d", 3 + 40, x.wish(F, 19));
        amounts("f", x, F, 20, 0, 20, 0);
        amounts("d", x, D, 2, 0, 12, 10);
        amounts("c", x, C_, 0, 40, 0, 40);
        C.due("batches", 2 + 1 + 10 + 1, x.told(3));
        C.due("gathered", 6 + 3 + 43, x.told(2));
        C.due("things", 22, x.told(1));
    }

    private static void ingredientsInTheirOrder() {
        // The first ingredient takes the a that is there, so the second one has to gather it.
        ThingMaker x = Checks.with("d=a+b", "f=a+d", "g=d+a");
        x.bring(A, 1);
        C.due("f", 2, x.wish(F, 1));
        amounts("a", x, A, 0, 1, 0, 2);
        ThingMaker y = Checks.with("d4=3a", "f=d+a");
        y.allow(A, D);
        C.due("d of a, a replaced by d", -2, y.allow(A, D));
        ThingMaker z = Checks.with("d4=3b", "f=d+5a", "g=5a+d");
        z.allow(A, D);
        C.due("f: of 4 d 1 is used, 3 for a, then 2 more are made", 6, z.wish(F, 1));
        amounts("d", z, D, 2, 0, 8, 6);
        z.bring(D, -2);
        C.due("g: 8 d, 5 for a, 1 for d", 6, z.wish(G, 1));
        amounts("d", z, D, 2, 0, 16, 12);
        amounts("a", z, A, 0, 0, 0, 0);
    }

    private static void substitutesFromTheStore() {
        ThingMaker x = Checks.with("d=10a");
        x.allow(A, C_);
        x.allow(A, B);
        x.allow(A, E);
        x.allow(C_, F);
        x.bring(A, 2);
        x.bring(B, 3);
        x.bring(C_, 1);
        x.bring(E, 9);
        x.bring(F, 50);
        C.due("all from the store", 0, x.wish(D, 1));
        amounts("a", x, A, 0, 0, 0, 2);
        amounts("c, the first one", x, C_, 0, 0, 0, 1);
        amounts("b", x, B, 0, 0, 0, 3);
        amounts("e, the last one", x, E, 5, 0, 0, 4);
        amounts("f, a substitute of a substitute", x, F, 50, 0, 0, 0);
        C.due("the rest is gathered", 5, x.wish(D, 2));
        amounts("a", x, A, 0, 5, 0, 7);
        amounts("e", x, E, 0, 0, 0, 9);
        x.bring(A, 100);
        x.bring(B, 100);
        C.due("the thing itself first", 0, x.make(D, 3));
        amounts("a", x, A, 70, 5, 0, 37);
        amounts("b", x, B, 100, 0, 0, 3);
    }

    private static void substituteMadeInPlace() {
        ThingMaker x = Checks.with("d=7a", "k3=2e", "h=g");
        x.allow(A, B);
        x.allow(A, K);
        x.allow(A, H);
        x.bring(K, 1);
        C.due("6 k: 2 batches", 4, x.wish(D, 1));
        amounts("k", x, K, 0, 0, 6, 7);
        amounts("a", x, A, 0, 0, 0, 0);
        amounts("h", x, H, 0, 0, 0, 0);
        amounts("e", x, E, 0, 4, 0, 4);
        x.bring(A, 3);
        C.due("4 k of 2 batches, 2 are left", 4, x.make(D, 1));
        amounts("k", x, K, 2, 0, 12, 11);
        amounts("a", x, A, 0, 0, 0, 3);
        x.forget(K);
        C.due("2 k are there, then h in its place", 5, x.make(D, 1));
        amounts("k", x, K, 0, 0, 12, 13);
        amounts("h", x, H, 0, 0, 5, 5);
        x.forget(H);
        C.due("none is made: a itself", 7, x.make(D, 1));
        amounts("a", x, A, 0, 7, 0, 10);
        Checks.lay(x, "h=g");
        Checks.lay(x, "a=2g");
        C.due("a is made itself", 14, x.make(D, 1));
        amounts("a", x, A, 0, 7, 7, 17);
        amounts("h", x, H, 0, 0, 5, 5);
    }

    private static void ownSubstitutesOfTheWish() {
        ThingMaker x = Checks.with("d=2a", "k=e");
        x.allow(D, K);
        x.allow(B, K);
        x.allow(B, C_);
        x.bring(K, 50);
        x.bring(C_, 50);
        C.due("d is made though k is there", 6, x.wish(D, 3));
        C.due("k stays", 50, x.thing(K, 0));
        C.due("b is gathered though k could be made", 7, x.wish(B, 7));
        C.due("k stays", 50, x.thing(K, 0));
        C.due("c stays", 50, x.thing(C_, 0));
    }

    private static void vessels() {
        ThingMaker x = Checks.with("d2=3a+b", "f=d");
        x.vessel(A, V);
        x.vessel(D, C_);
        x.bring(A, 2);
        C.due("f", 1 + 1, x.wish(F, 1));
        C.due("vessels of a, from the store and gathered", 3, x.thing(V, 0));
        C.due("came back", 3, x.thing(V, 9));
        C.due("not gathered", 0, x.thing(V, 6));
        C.due("not brought", 0, x.thing(V, 10));
        C.due("vessel of d that was made", 1, x.thing(C_, 0));
        C.due("a itself did not come back", 0, x.thing(A, 9));
        x.bring(D, -1);
        C.due("taking out gives no vessel", 1, x.thing(C_, 0));
        C.due("the wish itself is not used", 0, x.wish(F, 1));
        x.vessel(F, V);
        x.wish(F, 3);
        C.due("vessels of f: none", 6, x.thing(V, 9));
        x.vessel(A, -9);
        x.make(D, 1);
        C.due("no vessel any more", 6, x.thing(V, 9));
        ThingMaker y = Checks.with("d=2a");
        y.allow(A, B);
        y.vessel(A, C_);
        y.vessel(B, E);
        y.bring(A, 1);
        y.bring(B, 1);
        C.due("one of each", 0, y.wish(D, 1));
        C.due("vessel of a", 1, y.thing(C_, 0));
        C.due("vessel of the substitute", 1, y.thing(E, 0));
        C.due("come back", 1, y.thing(E, 9));
    }

    private static void vesselAheadOfSubstitutes() {
        // The vessel of a is its substitute: it is there as soon as a is used up.
        ThingMaker x = Checks.with("d=5a");
        x.vessel(A, B);
        x.allow(A, B);
        x.bring(A, 2);
        C.due("2 a, 2 b, 1 gathered", 1, x.wish(D, 1));
        amounts("a", x, A, 0, 1, 0, 3);
        amounts("b", x, B, 1, 0, 0, 2);
        C.due("b came back", 3, x.thing(B, 9));
        // The vessel of a substitute is the thing itself: too late for it to be taken.
        ThingMaker y = Checks.with("d=5a");
        y.vessel(B, A);
        y.allow(A, B);
        y.bring(A, 1);
        y.bring(B, 2);
        C.due("1 a, 2 b, 2 gathered", 2, y.wish(D, 1));
        amounts("a", y, A, 2, 2, 0, 3);
        amounts("b", y, B, 0, 0, 0, 2);
        // A later substitute gives back an earlier one, which then is made all the same.
        ThingMaker z = Checks.with("d=6a", "b=c");
        z.vessel(E, B);
        z.allow(A, B);
        z.allow(A, E);
        z.bring(E, 2);
        C.due("2 e, 4 b made, though 2 b are back", 4, z.wish(D, 1));
        amounts("b", z, B, 2, 0, 4, 4);
    }

    private static void vesselAheadOfProviding() {
        // The vessels of the 2 d in the store are what the third d is made of.
        ThingMaker x = Checks.with("d=2b", "f=3d");
        x.vessel(D, B);
        x.bring(D, 2);
        C.due("f", 0, x.wish(F, 1));
        amounts("b", x, B, 1, 0, 0, 2);
        C.due("b came back", 3, x.thing(B, 9));
        // The vessel of an ingredient is the next ingredient.
        ThingMaker y = Checks.with("d=2a+3b");
        y.vessel(A, B);
        C.due("2 a and 1 b", 3, y.wish(D, 1));
        amounts("b", y, B, 0, 1, 0, 3);
        ThingMaker z = Checks.with("d=3b+2a");
        z.vessel(A, B);
        C.due("3 b and 2 a", 5, z.wish(D, 1));
        amounts("b", z, B, 2, 3, 0, 3);
    }

    private static void vesselFromMakingIsNotCounted() {
        // The vessel of an ingredient is the very thing that is made: the batches are found ahead.
        ThingMaker x = Checks.with("d=a", "f=4d");
        x.vessel(A, D);
        C.due("4 d are made, 4 more come back", 4, x.wish(F, 1));
        amounts("d", x, D, 4, 0, 4, 4);
        C.due("came back", 4, x.thing(D, 9));
        C.due("3 are missing: 3 batches", 3, x.wish(D, 7));
        amounts("d", x, D, 10, 0, 7, 4);
    }

    private static void make() {
        ThingMaker x = Checks.with("d2=3a+b");
        for (int t : NO_THINGS) {
            C.due("make(" + t + ", 1)", -1, x.make(t, 1));
        }
        C.due("0", -1, x.make(D, 0));
        C.due("-1", -1, x.make(D, -1));
        C.due("100", -1, x.make(D, 100));
        C.due("100 of a gathered thing", -1, x.make(A, 100));
        C.due("a gathered thing", -2, x.make(A, 1));
        C.due("no change", 1, x.told(7));
        x.bring(D, 10);
        C.due("1 batch, though there are 10", 4, x.make(D, 1));
        C.due("a change", 3, x.told(7));
        amounts("d", x, D, 12, 0, 2, 0);
        C.due("99 batches", 396, x.make(D, 99));
        amounts("d", x, D, 210, 0, 200, 0);
        C.due("batches", 100, x.told(3));
        C.due("gathered", 400, x.told(2));
    }

    private static void tooManyBatches() {
        ThingMaker x = Checks.with("d=a", "f=4d", "g=5d", "h=4d+k", "k=b");
        C.due("500", 500, x.wish(D, 500));
        C.due("batches", 500, x.told(3));
        C.due("500 more for the next wish", 499, x.wish(D, 999));
        x.bring(D, -9999);
        C.due("501", -3, x.wish(D, 501));
        C.due("100 f of 400 d: 500", 400, x.wish(F, 100));
        x.bring(F, -9999);
        C.due("101 f", -3, x.wish(F, 101));
        C.due("99 batches of g of 495 d", -3, x.make(G, 99));
        C.due("83 batches of g of 415 d: 498", 415, x.make(G, 83));
        C.due("84 batches of g: 504", -3, x.make(G, 84));
        x.bring(D, 4);
        C.due("84 batches of g, 4 d there: 500", 416, x.make(G, 84));
        C.due("83 h: of 332 d and 83 k: 498", 415, x.make(H, 83));
        C.due("84 h: 504", -3, x.make(H, 84));
        ThingMaker y = Checks.with("d20=a", "f=20d");
        C.due("250 f of 250 batches of d", 250, y.wish(F, 250));
        C.due("251 more: 502", -3, y.wish(F, 501));
        C.due("250 more: 500", 250, y.wish(F, 500));
    }

    private static void storeOverflows() {
        ThingMaker x = Checks.with("d2=a");
        fill(x, D);
        C.due("batches into a full store", -3, x.make(D, 1));
        x.bring(D, -3);
        C.due("to 99998", 1, x.make(D, 1));
        C.due("one too many", -3, x.make(D, 1));
        x.bring(D, -1);
        C.due("to 99999", 1, x.make(D, 1));
        C.due("99999", 99999, x.thing(D, 0));
        ThingMaker y = Checks.with("d=a", "f=a+v".replace('v', 't'));
        y.vessel(A, V);
        fill(y, V);
        C.due("a vessel into a full store", -3, y.wish(D, 1));
        C.due("even if one of it is used later", -3, y.wish(F, 1));
        y.bring(V, -1);
        C.due("f with room for one", 1, y.wish(F, 1));
        C.due("one came, one went", 99998, y.thing(V, 0));
        C.due("two do not fit", -3, y.make(D, 2));
        C.due("one fits", 1, y.make(D, 1));
        C.due("full again", 99999, y.thing(V, 0));
        // t is used first, so there is room for the vessel then.
        Checks.lay(y, "g=t+a");
        C.due("room is made first", 1, y.make(G, 1));
        C.due("full as before", 99999, y.thing(V, 0));
    }

    private static void failureChangesNothing() {
        ThingMaker x = new ThingMaker();
        readyToFail(x);
        C.due("too many batches", -3, x.wish(F, 400));
        C.due("too many batches", -3, x.wish(F, 101));
        C.due("no change", 6, x.told(7));
        C.due("no fault", -9, x.fault(0));
        C.dueText("nothing changed", Checks.stateAfter(StoreTest::readyToFail), Checks.stateOf(x));
    }

    private static void readyToFail(ThingMaker x) {
        Checks.lay(x, "d=a+3b");
        Checks.lay(x, "f=4d");
        x.bring(A, 20);
        x.allow(B, C_);
        x.bring(C_, 40);
        x.vessel(C_, V);
    }
}
