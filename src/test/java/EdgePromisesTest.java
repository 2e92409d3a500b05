/** The sentences of promises 1 to 13 that name a case, a test for each. */
public final class EdgePromisesTest {
    private static final int A = 0, B = 1, C = 2, D = 3, E = 4, F = 5, G = 6, K = 10, S = 18, T = 19;
    private static final int BAD = -1, STATE = -2, FULL = -3, NONE = -9;
    private static final int MIN = Integer.MIN_VALUE, MAX = Integer.MAX_VALUE;
    private static final int[] NO_THINGS = {-1, 20, 21, 97, MIN, MAX};
    private static final Checks OF = new Checks("EdgePromisesTest");

    public static void main(String[] args) {
        newBook();
        newTextFaultAndImages();
        recipeInPlace();
        recipeLeavesAllElse();
        recipeLeavesTheText();
        recipeReturnsTheRank();
        recipeWithAFault();
        recipeWithRanksAmiss();
        forgetIsGatheredThen();
        forgetLeavesAllElse();
        forgetReturnsTheYield();
        forgetNoThing();
        forgetNoRecipe();
        allowBehindTheOthers();
        allowNoThing();
        allowBothTheSame();
        allowOneAlready();
        allowRanksAmiss();
        allowFull();
        forbidRemoves();
        forbidNoThing();
        forbidNoPlace();
        vesselBefore();
        vesselNoThing();
        vesselBothTheSame();
        vesselThatHasOne();
        vesselForAVessel();
        vesselTakenAway();
        bringAtMostWhatThereIs();
        bringNoThing();
        bringOutOfRange();
        bringFull();
        wishNoThing();
        wishOutOfRange();
        wishReturnsTheGathered();
        wishFails();
        makeWhateverIsThere();
        makeNoThing();
        makeOutOfRange();
        makeNoRecipe();
        makeFails();
        undoLeft();
        undoNothing();
        writeAppends();
        writeOutOfRange();
        writeFull();
        wipeReturnsTheLength();
        faultThatWasRememberedLast();
        faultNone();
        faultOutOfRange();
        OF.end();
    }

    // ---- promise 1

    private static void newBook() {
        ThingMaker x = OF.sentence("Creates a book without recipes, substitutes and vessels, with an empty store");
        for (int what = 0; what <= 5; what++) {
            OF.due("told(" + what + ")", 0, x.told(what));
        }
        for (int t = 0; t < 20; t++) {
            OF.due("no recipe of " + t, NONE, x.thing(t, 2));
            OF.due("no ingredients of " + t, NONE, x.thing(t, 3));
            OF.due("no vessel of " + t, NONE, x.thing(t, 4));
            OF.due("no substitutes of " + t, 0, x.thing(t, 5));
            OF.due("no substitute of " + t, NONE, x.substitute(t, 0));
            OF.due("no ingredient of " + t, NONE, x.ingredient(t, 0, 0));
            OF.due("nothing of " + t, 0, x.thing(t, 0));
            for (int account = 6; account <= 10; account++) {
                OF.due("account " + account + " of " + t, 0, x.thing(t, account));
            }
        }
    }

    private static void newTextFaultAndImages() {
        ThingMaker x = OF.sentence("the text is empty, there was no fault, the images keep nothing, and nothing can be undone");
        OF.due("text", 0, x.told(6));
        OF.due("text", 0, x.wipe());
        OF.due("kind", NONE, x.fault(0));
        OF.due("place", NONE, x.fault(1));
        OF.due("image 0", STATE, x.back(0));
        OF.due("image 1", STATE, x.back(1));
        OF.due("changes", 0, x.told(7));
        OF.due("undo", STATE, x.undo());
    }

    // ---- promise 2

    private static void recipeInPlace() {
        ThingMaker x = OF.sentence("Lays the recipe that the text tells, in place of that of the same thing");
        Checks.lay(x, "d9=2a+3b+4c");
        OF.due("another one", 1, Checks.lay(x, "d=5e"));
        OF.due("one recipe", 1, x.told(0));
        OF.due("yield", 1, x.thing(D, 2));
        OF.due("ingredients", 1, x.thing(D, 3));
        OF.due("ingredient", E, x.ingredient(D, 0, 0));
        OF.due("amount", 5, x.ingredient(D, 0, 1));
        OF.due("none behind it", NONE, x.ingredient(D, 1, 0));
        OF.due("for another thing", 1, Checks.lay(x, "f=5e"));
        OF.due("two recipes", 2, x.told(0));
    }

    private static void recipeLeavesAllElse() {
        ThingMaker x = OF.sentence("Lays the recipe that the text tells, in place of that of the same thing");
        giveAll(x, D);
        Checks.lay(x, "d3=e");
        dueAll(x, D);
        OF.due("another yield", 3, x.thing(D, 2));
    }

    /** A recipe, two substitutes, a vessel and some in the store. */
    private static void giveAll(ThingMaker x, int thing) {
        Checks.lay(x, (char) ('a' + thing) + "2=a");
        x.allow(thing, K);
        x.allow(thing, S);
        x.vessel(thing, T);
        x.wish(thing, 2);
        x.bring(thing, 5);
    }

    private static void dueAll(ThingMaker x, int thing) {
        OF.due("substitutes stay", 2, x.thing(thing, 5));
        OF.due("the first one", K, x.substitute(thing, 0));
        OF.due("the second one", S, x.substitute(thing, 1));
        OF.due("the vessel stays", T, x.thing(thing, 4));
        OF.due("the store stays", 7, x.thing(thing, 0));
        OF.due("made ones stay", 2, x.thing(thing, 7));
    }

    private static void recipeLeavesTheText() {
        ThingMaker x = OF.sentence("the text stays");
        Checks.lay(x, "d=a");
        OF.due("bytes", 3, x.told(6));
        OF.due("the next byte", 4, x.write('+'));
        OF.due("a fault", STATE, x.recipe());
        OF.due("bytes", 4, x.told(6));
        OF.due("the next byte", 5, x.write('b'));
        OF.due("the whole text", 1, x.recipe());
        OF.due("both ingredients", 2, x.thing(D, 3));
        Checks.lay(x, "a=d");
        OF.due("bytes, after a ring", 3, x.wipe());
    }

    private static void recipeReturnsTheRank() {
        ThingMaker x = OF.sentence("Returns the rank of the thing then");
        OF.due("1", 1, Checks.lay(x, "b=a"));
        OF.due("2", 2, Checks.lay(x, "c=b"));
        OF.due("3", 3, Checks.lay(x, "d=a+c"));
        OF.due("of that recipe, not of the one before", 1, Checks.lay(x, "d=a"));
        OF.due("of that thing, not the greatest", 1, Checks.lay(x, "e=a"));
        x.allow(A, C);
        OF.due("by a substitute", STATE, x.allow(A, D));
        x.allow(K, C);
        OF.due("by a substitute", 3, Checks.lay(x, "e=k"));
    }

    private static void recipeWithAFault() {
        ThingMaker x = OF.sentence("STATE if the text has a fault (the fault is remembered)");
        OF.due("empty", STATE, x.recipe());
        OF.due("kind", 4, x.fault(0));
        OF.due("a recipe with a byte behind it", STATE, Checks.lay(x, "d=a;"));
        OF.due("kind", 1, x.fault(0));
        OF.due("place", 3, x.fault(1));
        OF.due("no recipe", 0, x.told(0));
        OF.due("a fault ahead of a ring", STATE, Checks.lay(x, "d=d+d"));
        OF.due("kind", 3, x.fault(0));
        OF.due("place", 4, x.fault(1));
    }

    private static void recipeWithRanksAmiss() {
        ThingMaker x = OF.sentence("no fault is remembered then");
        OF.due("itself", STATE, Checks.lay(x, "a=a"));
        OF.due("no fault", NONE, x.fault(0));
        for (int k = 1; k <= 8; k++) {
            OF.due("rank", k, Checks.lay(x, (char) ('a' + k) + "=" + (char) ('a' + k - 1)));
        }
        OF.due("a ring", STATE, Checks.lay(x, "a=i"));
        OF.due("above 8", STATE, Checks.lay(x, "j=i"));
        OF.due("above 8 at the top", STATE, Checks.lay(x, "a=t"));
        OF.due("no fault", NONE, x.fault(0));
        OF.due("no place", NONE, x.fault(1));
        OF.due("nothing was laid", 8, x.told(0));
        Checks.lay(x, "j=0i");
        Checks.lay(x, "j=i");
        OF.due("the fault before is still told", 2, x.fault(0));
        OF.due("with its place", 2, x.fault(1));
    }

    // ---- promise 3

    private static void forgetIsGatheredThen() {
        ThingMaker x = OF.sentence("Takes the recipe of a thing out of the book: it is gathered then.");
        Checks.lay(x, "d=a");
        Checks.lay(x, "e=d");
        x.forget(D);
        OF.due("gathered", 4, x.gather(D, 4, D));
        OF.due("gathered for another", 4, x.gather(E, 4, D));
        OF.due("rank", 0, x.thing(D, 1));
        OF.due("rank of the other", 1, x.thing(E, 1));
        OF.due("recipes", 1, x.told(0));
        OF.due("ingredient", NONE, x.ingredient(D, 0, 0));
        OF.due("not needed", 0, x.isNeeded(A, E));
    }

    private static void forgetLeavesAllElse() {
        ThingMaker x = OF.sentence("Takes the recipe of a thing out of the book: it is gathered then.");
        giveAll(x, D);
        x.forget(D);
        dueAll(x, D);
        OF.due("no yield", NONE, x.thing(D, 2));
    }

    private static void forgetReturnsTheYield() {
        ThingMaker x = OF.sentence("Returns its yield");
        Checks.lay(x, "a=b");
        Checks.lay(x, "t20=b");
        OF.due("1", 1, x.forget(A));
        OF.due("20", 20, x.forget(T));
    }

    private static void forgetNoThing() {
        ThingMaker x = OF.sentence("BAD if there is no such thing; STATE if it has no recipe.");
        for (int t : NO_THINGS) {
            OF.due("forget(" + t + ")", BAD, x.forget(t));
        }
        OF.due("forget(-9)", BAD, x.forget(NONE));
    }

    private static void forgetNoRecipe() {
        ThingMaker x = OF.sentence("BAD if there is no such thing; STATE if it has no recipe.");
        Checks.lay(x, "d=a");
        for (int t = 0; t < 20; t++) {
            OF.due("forget(" + t + ")", t == D ? 1 : STATE, x.forget(t));
        }
        OF.due("no more", STATE, x.forget(D));
    }

    // ---- promise 4

    private static void allowBehindTheOthers() {
        ThingMaker x = OF.sentence("Adds a substitute behind those that a thing has.");
        OF.due("one", 1, x.allow(T, S));
        OF.due("two", 2, x.allow(T, A));
        OF.due("three", 3, x.allow(T, K));
        OF.due("first", S, x.substitute(T, 0));
        OF.due("second", A, x.substitute(T, 1));
        OF.due("third", K, x.substitute(T, 2));
        OF.due("how many of another thing", 1, x.allow(S, T));
        x.forbid(T, 1);
        OF.due("three again", 3, x.allow(T, A));
        OF.due("last now", A, x.substitute(T, 2));
    }

    private static void allowNoThing() {
        ThingMaker x = OF.sentence("BAD if there is no such thing, or both are the same");
        for (int t : NO_THINGS) {
            OF.due("allow(" + t + ", 0)", BAD, x.allow(t, A));
            OF.due("allow(0, " + t + ")", BAD, x.allow(A, t));
            OF.due("allow(" + t + ", " + t + ")", BAD, x.allow(t, t));
        }
        OF.due("allow(0, -9)", BAD, x.allow(A, NONE));
        OF.due("allow(-9, 0)", BAD, x.allow(NONE, A));
    }

    private static void allowBothTheSame() {
        ThingMaker x = OF.sentence("BAD if there is no such thing, or both are the same");
        OF.due("the first thing", BAD, x.allow(A, A));
        OF.due("the last thing", BAD, x.allow(T, T));
        Checks.lay(x, "d=a");
        OF.due("a made one", BAD, x.allow(D, D));
    }

    private static void allowOneAlready() {
        ThingMaker x = OF.sentence("STATE if it is one already");
        x.allow(A, B);
        OF.due("the only one", STATE, x.allow(A, B));
        x.allow(A, C);
        x.allow(A, D);
        OF.due("the first of 3", STATE, x.allow(A, B));
        OF.due("the second of 3", STATE, x.allow(A, C));
        OF.due("the third of 3", STATE, x.allow(A, D));
        OF.due("the other way round", 1, x.allow(B, A));
    }

    private static void allowRanksAmiss() {
        ThingMaker x = OF.sentence("or, with fewer than 3, ranks would not be as described");
        Checks.lay(x, "d=a");
        OF.due("with none", STATE, x.allow(A, D));
        x.allow(A, B);
        x.allow(A, C);
        OF.due("with 2", STATE, x.allow(A, D));
        OF.due("2 as before", 2, x.thing(A, 5));
        x.allow(A, E);
        OF.due("with 3", FULL, x.allow(A, D));
    }

    private static void allowFull() {
        ThingMaker x = OF.sentence("FULL if there are 3");
        x.allow(A, B);
        x.allow(A, C);
        OF.due("with 2", 3, x.allow(A, D));
        OF.due("with 3", FULL, x.allow(A, E));
        OF.due("still 3", 3, x.thing(A, 5));
        x.forbid(A, 2);
        OF.due("with 2 again", 3, x.allow(A, E));
    }

    // ---- promise 5

    private static void forbidRemoves() {
        ThingMaker x = OF.sentence("Removes a substitute.");
        x.allow(A, B);
        x.allow(A, C);
        x.allow(A, D);
        OF.due("the best liked one", B, x.forbid(A, 0));
        OF.due("the next one moves up", C, x.substitute(A, 0));
        OF.due("and the last one", D, x.substitute(A, 1));
        OF.due("none behind", NONE, x.substitute(A, 2));
        OF.due("the last one", D, x.forbid(A, 1));
        OF.due("the only one", C, x.forbid(A, 0));
        OF.due("none", 0, x.thing(A, 5));
    }

    private static void forbidNoThing() {
        ThingMaker x = OF.sentence("BAD if there is no such thing or place.");
        x.allow(A, B);
        x.allow(T, B);
        for (int t : NO_THINGS) {
            OF.due("forbid(" + t + ", 0)", BAD, x.forbid(t, 0));
        }
        OF.due("forbid(-9, 0)", BAD, x.forbid(NONE, 0));
    }

    private static void forbidNoPlace() {
        ThingMaker x = OF.sentence("BAD if there is no such thing or place.");
        OF.due("0 of none", BAD, x.forbid(A, 0));
        x.allow(A, B);
        OF.due("1 of 1", BAD, x.forbid(A, 1));
        x.allow(A, C);
        OF.due("2 of 2", BAD, x.forbid(A, 2));
        x.allow(A, D);
        OF.due("3 of 3", BAD, x.forbid(A, 3));
        x.allow(B, C);
        int[] none = {-1, -9, MIN, MAX, 20};
        for (int k : none) {
            OF.due("place " + k, BAD, x.forbid(A, k));
        }
        OF.due("2 of 3", D, x.forbid(A, 2));
        OF.due("that of the next thing stays", C, x.forbid(B, 0));
    }

    // ---- promise 6

    private static void vesselBefore() {
        ThingMaker x = OF.sentence("Returns the vessel that it had, NONE if it had none");
        OF.due("none", NONE, x.vessel(A, B));
        OF.due("b", B, x.vessel(A, T));
        OF.due("t", T, x.vessel(A, NONE));
        OF.due("none", NONE, x.vessel(A, NONE));
        OF.due("none", NONE, x.vessel(B, A));
        OF.due("a, the thing 0", A, x.vessel(B, A));
        OF.due("told", A, x.thing(B, 4));
        OF.due("none of others", NONE, x.thing(A, 4));
    }

    private static void vesselNoThing() {
        ThingMaker x = OF.sentence("BAD if there is no such thing, or both are the same; STATE if a vessel is told");
        for (int t : NO_THINGS) {
            OF.due("vessel(" + t + ", 0)", BAD, x.vessel(t, A));
            OF.due("vessel(" + t + ", NONE)", BAD, x.vessel(t, NONE));
            OF.due("vessel(0, " + t + ")", BAD, x.vessel(A, t));
        }
        OF.due("vessel(-9, 0)", BAD, x.vessel(NONE, A));
        OF.due("vessel(-9, -9)", BAD, x.vessel(NONE, NONE));
        OF.due("vessel(0, -2)", BAD, x.vessel(A, -2));
    }

    private static void vesselBothTheSame() {
        ThingMaker x = OF.sentence("BAD if there is no such thing, or both are the same; STATE if a vessel is told");
        OF.due("the first thing", BAD, x.vessel(A, A));
        OF.due("the last thing", BAD, x.vessel(T, T));
        x.vessel(A, T);
        OF.due("with a vessel", BAD, x.vessel(A, A));
        OF.due("a vessel", BAD, x.vessel(T, T));
    }

    private static void vesselThatHasOne() {
        ThingMaker x = OF.sentence("STATE if a vessel is told (not NONE), and it has a vessel, or the thing is the vessel of another one.");
        x.vessel(B, A);
        OF.due("b has one", STATE, x.vessel(C, B));
        OF.due("still none", NONE, x.thing(C, 4));
        x.vessel(B, NONE);
        OF.due("b has none", NONE, x.vessel(C, B));
        OF.due("the thing that is told may have one", B, x.vessel(C, A));
    }

    private static void vesselForAVessel() {
        ThingMaker x = OF.sentence("STATE if a vessel is told (not NONE), and it has a vessel, or the thing is the vessel of another one.");
        x.vessel(A, T);
        x.vessel(S, T);
        OF.due("t of a and s", STATE, x.vessel(T, B));
        x.vessel(A, NONE);
        OF.due("t of s", STATE, x.vessel(T, B));
        x.vessel(S, A);
        OF.due("t of none", NONE, x.vessel(T, B));
        OF.due("a of s", STATE, x.vessel(A, C));
        x.vessel(S, T + 1);
        OF.due("t has one now", STATE, x.vessel(S, T));
    }

    private static void vesselTakenAway() {
        ThingMaker x = OF.sentence("another thing, or NONE for none");
        x.vessel(A, T);
        OF.due("NONE for a vessel", NONE, x.vessel(T, NONE));
        OF.due("NONE for one that has one", T, x.vessel(A, NONE));
        OF.due("none", NONE, x.thing(A, 4));
        Checks.lay(x, "d=a");
        x.make(D, 1);
        OF.due("nothing comes back", 0, x.thing(T, 0));
    }

    // ---- promise 7

    private static void bringAtMostWhatThereIs() {
        ThingMaker x = OF.sentence("at most what there is is taken out");
        OF.due("from nothing", 0, x.bring(A, -9999));
        OF.due("brought", 0, x.thing(A, 10));
        x.bring(A, 5);
        OF.due("less", 1, x.bring(A, -4));
        OF.due("just what is there", 0, x.bring(A, -1));
        x.bring(A, 5);
        OF.due("more", 0, x.bring(A, -6));
        OF.due("brought", 0, x.thing(A, 10));
        Checks.fill(x, A, 20000);
        OF.due("9999 of more", 10001, x.bring(A, -9999));
    }

    private static void bringNoThing() {
        ThingMaker x = OF.sentence("BAD if there is no such thing or amount is out of range");
        for (int t : NO_THINGS) {
            OF.due("bring(" + t + ", 1)", BAD, x.bring(t, 1));
            OF.due("bring(" + t + ", 0)", BAD, x.bring(t, 0));
        }
        OF.due("bring(-9, 1)", BAD, x.bring(NONE, 1));
    }

    private static void bringOutOfRange() {
        ThingMaker x = OF.sentence("-9999 to 9999");
        OF.due("9999", 9999, x.bring(A, 9999));
        OF.due("10000", BAD, x.bring(A, 10000));
        OF.due("-10000", BAD, x.bring(A, -10000));
        OF.due("max", BAD, x.bring(A, MAX));
        OF.due("min", BAD, x.bring(A, MIN));
        OF.due("-9999", 0, x.bring(A, -9999));
    }

    private static void bringFull() {
        ThingMaker x = OF.sentence("FULL if it would be above 99999");
        Checks.fill(x, A, 90000);
        OF.due("99999", 99999, x.bring(A, 9999));
        OF.due("100000", FULL, x.bring(A, 1));
        OF.due("109998", FULL, x.bring(A, 9999));
        OF.due("nothing was brought", 99999, x.thing(A, 10));
        OF.due("0 more", 99999, x.bring(A, 0));
        OF.due("1 less", 99998, x.bring(A, -1));
        OF.due("2 more", FULL, x.bring(A, 2));
        OF.due("1 more", 99999, x.bring(A, 1));
        OF.due("another thing", 1, x.bring(B, 1));
    }

    // ---- promise 8

    private static void wishNoThing() {
        ThingMaker x = OF.sentence("BAD if there is no such thing or n is out of range; FULL if the wish fails.");
        for (int t : NO_THINGS) {
            OF.due("wish(" + t + ", 1)", BAD, x.wish(t, 1));
        }
        OF.due("wish(-9, 1)", BAD, x.wish(NONE, 1));
    }

    private static void wishOutOfRange() {
        ThingMaker x = OF.sentence("how many, 1 to 999");
        int[] none = {0, -1, 1000, NONE, MIN, MAX};
        for (int n : none) {
            OF.due("wish " + n, BAD, x.wish(A, n));
            OF.due("gather " + n, BAD, x.gather(A, n, A));
            OF.due("gift " + n, BAD, x.bestGift(A, n));
        }
        OF.due("1", 1, x.wish(A, 1));
        OF.due("999", 998, x.wish(A, 999));
        OF.due("gather 1", 0, x.gather(A, 1, A));
        OF.due("gather 999", 999, x.gather(B, 999, B));
        OF.due("gift 1", NONE, x.bestGift(A, 1));
        OF.due("gift 999", B, x.bestGift(B, 999));
    }

    private static void wishReturnsTheGathered() {
        ThingMaker x = OF.sentence("Returns how many things were gathered for it");
        Checks.lay(x, "d2=3a+b");
        x.bring(A, 4);
        OF.due("2 of a, 2 of b", 4, x.wish(D, 3));
        OF.due("none", 0, x.wish(D, 4));
        OF.due("those of a wish before do not count", 4, x.wish(D, 5));
        OF.due("by batches", 8, x.make(D, 2));
        x.bring(A, 6);
        x.bring(B, 2);
        OF.due("none by batches", 0, x.make(D, 2));
    }

    private static void wishFails() {
        ThingMaker x = OF.sentence("BAD if there is no such thing or n is out of range; FULL if the wish fails.");
        Checks.lay(x, "d=a");
        OF.due("501 batches", FULL, x.wish(D, 501));
        OF.due("nothing was gathered", 0, x.told(2));
        OF.due("nothing was made", 0, x.thing(D, 0));
        OF.due("no change", 1, x.told(7));
        OF.due("500 batches", 500, x.wish(D, 500));
    }

    // ---- promise 9

    private static void makeWhateverIsThere() {
        ThingMaker x = OF.sentence("Makes batches of a thing, whatever is in the store of it.");
        Checks.lay(x, "d3=2a");
        x.bring(D, 50);
        OF.due("2 batches", 4, x.make(D, 2));
        OF.due("6 more", 56, x.thing(D, 0));
    }

    private static void makeNoThing() {
        ThingMaker x = OF.sentence("BAD if there is no such thing or batches is out of range");
        for (int t : NO_THINGS) {
            OF.due("make(" + t + ", 1)", BAD, x.make(t, 1));
        }
        OF.due("make(-9, 1)", BAD, x.make(NONE, 1));
    }

    private static void makeOutOfRange() {
        ThingMaker x = OF.sentence("1 to 99");
        Checks.lay(x, "d=a");
        int[] none = {0, -1, 100, NONE, MIN, MAX};
        for (int n : none) {
            OF.due("make " + n, BAD, x.make(D, n));
        }
        OF.due("1", 1, x.make(D, 1));
        OF.due("99", 99, x.make(D, 99));
    }

    private static void makeNoRecipe() {
        ThingMaker x = OF.sentence("STATE if it has no recipe; FULL if it fails, as for a wish.");
        OF.due("gathered", STATE, x.make(A, 1));
        OF.due("gathered", STATE, x.make(A, 99));
        x.allow(A, D);
        Checks.lay(x, "d=b");
        OF.due("gathered, with a substitute that is made", STATE, x.make(A, 1));
        OF.due("made", 1, x.make(D, 1));
        x.forget(D);
        OF.due("gathered again", STATE, x.make(D, 1));
    }

    private static void makeFails() {
        ThingMaker x = OF.sentence("STATE if it has no recipe; FULL if it fails, as for a wish.");
        Checks.lay(x, "e=a");
        Checks.lay(x, "f20=5e");
        OF.due("84 and 420 batches", FULL, x.make(F, 84));
        OF.due("83 and 415 batches", 415, x.make(F, 83));
        Checks.fill(x, F, 99980);
        OF.due("99999 can't be passed", FULL, x.make(F, 1));
        x.bring(F, -1);
        OF.due("99999 can be reached", 5, x.make(F, 1));
        Checks.lay(x, "g=5b");
        x.vessel(B, T);
        Checks.fill(x, T, 99995);
        OF.due("by vessels", FULL, x.make(G, 1));
        x.bring(T, -1);
        OF.due("by vessels", 5, x.make(G, 1));
    }

    // ---- promise 10

    private static void undoLeft() {
        ThingMaker x = OF.sentence("Returns how many changes can still be undone");
        for (int k = 0; k < 12; k++) {
            x.bring(A, 1);
        }
        for (int left = 7; left >= 0; left--) {
            OF.due("left", left, x.undo());
            OF.due("told", left, x.told(7));
        }
    }

    private static void undoNothing() {
        ThingMaker x = OF.sentence("STATE if there is none");
        OF.due("at first", STATE, x.undo());
        x.keep(0);
        x.write('a');
        OF.due("keep and write are no changes", STATE, x.undo());
        x.bring(A, 1);
        x.undo();
        OF.due("after the last one", STATE, x.undo());
        OF.due("and once more", STATE, x.undo());
    }

    // ---- promises 11 and 12

    private static void writeAppends() {
        ThingMaker x = OF.sentence("Returns the new length of the text");
        String text = "d2=3a+b";
        for (int k = 0; k < text.length(); k++) {
            OF.due("byte " + k, k + 1, x.write(text.charAt(k)));
        }
        OF.due("in their order", 1, x.recipe());
        OF.due("yield", 2, x.thing(D, 2));
        OF.due("last one", B, x.ingredient(D, 1, 0));
    }

    private static void writeOutOfRange() {
        ThingMaker x = OF.sentence("BAD if code is out of range; FULL if the text has 60 bytes.");
        int[] none = {31, 127, 0, -1, 10, 128, 32 + 256, MIN, MAX};
        for (int code : none) {
            OF.due("write(" + code + ")", BAD, x.write(code));
        }
        OF.due("no bytes", 0, x.told(6));
        OF.due("32", 1, x.write(32));
        OF.due("126", 2, x.write(126));
    }

    private static void writeFull() {
        ThingMaker x = OF.sentence("BAD if code is out of range; FULL if the text has 60 bytes.");
        Checks.type(x, " ".repeat(59));
        OF.due("60th", 60, x.write(32));
        OF.due("61st", FULL, x.write(32));
        OF.due("61st again", FULL, x.write(126));
        OF.due("61st of a wrong code", BAD, x.write(127));
        x.wipe();
        OF.due("room again", 1, x.write(32));
    }

    private static void wipeReturnsTheLength() {
        ThingMaker x = OF.sentence("Returns the length that it had.");
        OF.due("0", 0, x.wipe());
        x.write('a');
        OF.due("1", 1, x.wipe());
        OF.due("0 then", 0, x.wipe());
        Checks.type(x, " ".repeat(60));
        OF.due("60", 60, x.wipe());
        OF.due("0 then", 0, x.told(6));
    }

    // ---- promise 13

    private static void faultThatWasRememberedLast() {
        ThingMaker x = OF.sentence("Tells about the fault that was remembered last, also if other calls came behind it.");
        Checks.lay(x, "d=a+21b");
        OF.due("kind", 2, x.fault(0));
        OF.due("place", 4, x.fault(1));
        Checks.lay(x, "d=a");
        x.wish(D, 3);
        x.undo();
        x.keep(0);
        x.back(0);
        x.wipe();
        OF.due("kind, behind a good recipe and more", 2, x.fault(0));
        OF.due("place", 4, x.fault(1));
        Checks.lay(x, "?");
        OF.due("kind of the later one", 1, x.fault(0));
        OF.due("place of the later one", 0, x.fault(1));
        Checks.lay(x, "d=b+b");
        OF.due("kind of the last one", 3, x.fault(0));
        OF.due("place of the last one", 4, x.fault(1));
    }

    private static void faultNone() {
        ThingMaker x = OF.sentence("NONE if no fault was remembered");
        OF.due("kind", NONE, x.fault(0));
        OF.due("place", NONE, x.fault(1));
        Checks.lay(x, "d=a");
        Checks.lay(x, "a=d");
        x.wish(D, 1000);
        x.back(0);
        OF.due("kind, behind other errors", NONE, x.fault(0));
        OF.due("place, behind other errors", NONE, x.fault(1));
        Checks.lay(x, "");
        OF.due("place 0 is a place", 0, x.fault(1));
    }

    private static void faultOutOfRange() {
        ThingMaker x = OF.sentence("NONE if no fault was remembered; BAD if what is out of range.");
        int[] none = {-1, 2, NONE, MIN, MAX};
        for (int what : none) {
            OF.due("fault(" + what + ")", BAD, x.fault(what));
        }
        Checks.lay(x, "d=");
        for (int what : none) {
            OF.due("fault(" + what + ") of one", BAD, x.fault(what));
        }
    }
}
