/** The sentences of the section MAKING that name a case, a test for each. */
public final class EdgeMakingTest {
    private static final int A = 0, B = 1, C = 2, D = 3, E = 4, F = 5, G = 6, H = 7, K = 10, T = 19;
    private static final int FULL = -3, NONE = -9;
    private static final Checks OF = new Checks("EdgeMakingTest");

    public static void main(String[] args) {
        ownFromTheStore();
        substitutesFromTheStore();
        substitutesOnlyForWhatIsMissing();
        eachIsAskedOnce();
        batchesRoundedUp();
        batchesFoundAhead();
        onlyTheMissingAreUsed();
        madeThoughASubstituteIsMade();
        firstMadeSubstitute();
        madeSubstituteByBatches();
        justAsMuchIsGathered();
        inTheOrderOfTheRecipe();
        amountTimesBatches();
        yieldTimesBatches();
        vesselAtOnce();
        vesselOfEachWay();
        vesselAheadOfProviding();
        noVesselForNothing();
        missingToN();
        wishByBatchesOrGathering();
        ownSubstitutesPlayNoPart();
        notUsed();
        gatheredIsCounted();
        aboveByABatch();
        aboveByAVessel();
        aboveAtAnyTime();
        aboveForAWish();
        fiveHundredBatches();
        batchesOfAllThings();
        batchesOfThisWish();
        failureChangesNothing();
        OF.end();
    }

    /** The store, and what was gathered, made and used of a thing. */
    private static void thing(ThingMaker x, int thing, int store, int gathered, int made, int used) {
        OF.due("store of " + thing, store, x.thing(thing, 0));
        OF.due("gathered of " + thing, gathered, x.thing(thing, 6));
        OF.due("made of " + thing, made, x.thing(thing, 7));
        OF.due("used of " + thing, used, x.thing(thing, 8));
    }

    // ---- taking

    private static void ownFromTheStore() {
        OF.sentence("as many as there are, at most n, are used of the thing itself from the store");
        int[] there = {0, 1, 3, 4, 5, 6, 99};
        for (int n : there) {
            ThingMaker x = Checks.with("d=4a");
            x.allow(A, B);
            x.bring(A, n);
            x.make(D, 1);
            thing(x, A, Math.max(n - 4, 0), Math.max(4 - n, 0), 0, 4);
            thing(x, B, 0, 0, 0, 0);
        }
    }

    private static void substitutesFromTheStore() {
        OF.sentence("then, of what is missing, likewise from its substitutes, in their order");
        ThingMaker x = Checks.with("d=9a");
        x.allow(A, H);
        x.allow(A, B);
        x.allow(A, G);
        x.bring(A, 2);
        x.bring(B, 3);
        x.bring(G, 9);
        x.bring(H, 1);
        OF.due("2 + 1 + 3 + 3", 0, x.make(D, 1));
        thing(x, A, 0, 0, 0, 2);
        thing(x, H, 0, 0, 0, 1);
        thing(x, B, 0, 0, 0, 3);
        thing(x, G, 6, 0, 0, 3);
        OF.due("6 + 3 that are missing of a", 3, x.make(D, 1));
        thing(x, G, 0, 0, 0, 9);
        thing(x, A, 0, 3, 0, 5);
    }

    private static void substitutesOnlyForWhatIsMissing() {
        OF.sentence("then, of what is missing, likewise from its substitutes, in their order");
        ThingMaker x = Checks.with("d=3a", "a=c");
        x.allow(A, B);
        x.allow(A, E);
        x.bring(A, 3);
        x.bring(B, 3);
        x.bring(E, 3);
        OF.due("nothing is missing", 0, x.make(D, 1));
        thing(x, B, 3, 0, 0, 0);
        OF.due("the first one is enough", 0, x.make(D, 1));
        thing(x, B, 0, 0, 0, 3);
        thing(x, E, 3, 0, 0, 0);
        x.bring(A, 1);
        OF.due("also for a thing that is made: ahead of making it", 0, x.make(D, 1));
        thing(x, E, 1, 0, 0, 2);
        thing(x, A, 0, 0, 0, 4);
        OF.due("what is missing even so is made", 2, x.make(D, 1));
        thing(x, E, 0, 0, 0, 3);
        thing(x, A, 0, 0, 2, 6);
    }

    private static void eachIsAskedOnce() {
        OF.sentence("likewise from its substitutes, in their order; what is missing even so is provided like this");
        ThingMaker x = Checks.with("d=4a");
        x.allow(A, B);
        x.vessel(B, A);
        x.bring(B, 2);
        OF.due("the vessels of 2 b are a, but the turn of a is over", 2, x.make(D, 1));
        thing(x, A, 2, 2, 0, 2);
        ThingMaker y = Checks.with("d=4a");
        y.allow(A, B);
        y.allow(A, C);
        y.vessel(C, B);
        y.bring(C, 3);
        OF.due("the turn of b is over", 1, y.make(D, 1));
        thing(y, B, 3, 0, 0, 0);
        thing(y, A, 0, 1, 0, 1);
        ThingMaker z = Checks.with("d=4a");
        z.allow(A, C);
        z.allow(A, B);
        z.vessel(C, B);
        z.bring(C, 2);
        OF.due("the turn of b is yet to come", 0, z.make(D, 1));
        thing(z, B, 0, 0, 0, 2);
    }

    // ---- providing

    private static void batchesRoundedUp() {
        OF.sentence("by as many batches as are needed (missing / yield, rounded up, found ahead of making them)");
        int[][] due = {{1, 1}, {3, 1}, {4, 1}, {5, 2}, {8, 2}, {9, 3}};
        for (int[] row : due) {
            ThingMaker x = Checks.with("b4=c", "d=" + row[0] + "b");
            OF.due("missing " + row[0] + " of 4 a batch", row[1], x.make(D, 1));
            OF.due("batches, with that of d", row[1] + 1, x.told(3));
            thing(x, B, 4 * row[1] - row[0], 0, 4 * row[1], row[0]);
            OF.due("batches for a wish of " + row[0], row[1], Checks.with("b4=c").gather(B, row[0], C));
        }
    }

    private static void batchesFoundAhead() {
        OF.sentence("by as many batches as are needed (missing / yield, rounded up, found ahead of making them)");
        ThingMaker x = Checks.with("b=c", "d=6b");
        x.vessel(C, B);
        OF.due("6, though more b come back by making them", 6, x.make(D, 1));
        thing(x, B, 6, 0, 6, 6);
        OF.due("a wish likewise: 4 are missing to 10", 4, x.wish(B, 10));
        thing(x, B, 14, 0, 10, 6);
    }

    private static void onlyTheMissingAreUsed() {
        OF.sentence("and so many as are missing are used");
        ThingMaker x = Checks.with("b7=c", "d=5b");
        x.bring(B, 1);
        x.make(D, 1);
        thing(x, B, 3, 0, 7, 5);
        x.make(D, 1);
        thing(x, B, 5, 0, 14, 10);
        x.make(D, 1);
        thing(x, B, 0, 0, 14, 15);
        x.make(D, 1);
        thing(x, B, 2, 0, 21, 20);
    }

    private static void madeThoughASubstituteIsMade() {
        OF.sentence("If the thing is made, what is missing of it is made");
        ThingMaker x = Checks.with("b=c", "k=e", "d=b");
        x.allow(B, K);
        OF.due("b is made itself", 1, x.gather(D, 1, C));
        OF.due("no k", 0, x.gather(D, 1, E));
    }

    private static void firstMadeSubstitute() {
        OF.sentence("If it is gathered, and one of its substitutes is made, the first one of these in their order is made in its place");
        ThingMaker x = Checks.with("d=2a", "k=e", "b=c");
        x.allow(A, T);
        x.allow(A, K);
        x.allow(A, B);
        OF.due("k, as t is not made", 2, x.make(D, 1));
        thing(x, K, 0, 0, 2, 2);
        thing(x, B, 0, 0, 0, 0);
        thing(x, A, 0, 0, 0, 0);
        thing(x, T, 0, 0, 0, 0);
        Checks.lay(x, "t=2f");
        OF.due("t, which is the first one now", 4, x.make(D, 1));
        thing(x, T, 0, 0, 2, 2);
        x.forbid(A, 0);
        x.forget(K);
        OF.due("b, the last one", 2, x.make(D, 1));
        thing(x, B, 0, 0, 2, 2);
        x.forget(B);
        OF.due("none is made", 2, x.make(D, 1));
        thing(x, A, 0, 2, 0, 2);
    }

    private static void madeSubstituteByBatches() {
        OF.sentence("is made in its place, likewise by batches, and used");
        ThingMaker x = Checks.with("d=8a", "k3=2e");
        x.allow(A, K);
        x.bring(A, 1);
        OF.due("7 are missing: 3 batches", 6, x.make(D, 1));
        thing(x, K, 2, 0, 9, 7);
        thing(x, A, 0, 0, 0, 1);
        OF.due("2 are there, 6 are missing: 2 batches", 4, x.make(D, 1));
        thing(x, K, 0, 0, 15, 15);
        ThingMaker y = Checks.with("d=a", "k2=e");
        y.allow(A, K);
        y.allow(K, B);
        y.bring(B, 9);
        OF.due("no substitutes for the one that is made in its place", 1, y.make(D, 1));
        thing(y, B, 9, 0, 0, 0);
    }

    private static void justAsMuchIsGathered() {
        OF.sentence("Otherwise it is gathered, just as much as is missing, and used.");
        ThingMaker x = Checks.with("d3=7a+b");
        x.allow(A, C);
        x.bring(A, 2);
        x.bring(C, 1);
        OF.due("4 of a and 1 of b", 5, x.make(D, 1));
        thing(x, A, 0, 4, 0, 6);
        thing(x, B, 0, 1, 0, 1);
        thing(x, C, 0, 0, 0, 1);
        x.bring(A, 7);
        OF.due("none of a", 1, x.make(D, 1));
        thing(x, A, 0, 4, 0, 13);
    }

    // ---- batches

    private static void inTheOrderOfTheRecipe() {
        OF.sentence("for each ingredient, in the order of the recipe, amount * b of it are taken as above");
        ThingMaker x = Checks.with("d=b+a");
        x.allow(A, B);
        x.bring(B, 1);
        OF.due("b takes the one b", 1, x.gather(D, 1, A));
        Checks.lay(x, "d=a+b");
        OF.due("a takes the one b in its place", 0, x.gather(D, 1, A));
        OF.due("so b is gathered", 1, x.gather(D, 1, B));
        ThingMaker y = Checks.with("d=e+a+b");
        y.vessel(A, B);
        y.vessel(B, E);
        OF.due("the vessel comes too late for the first one", 1, y.gather(D, 1, E));
        OF.due("and in time for the last one", 0, y.gather(D, 1, B));
    }

    private static void amountTimesBatches() {
        OF.sentence("for each ingredient, in the order of the recipe, amount * b of it are taken as above");
        ThingMaker x = Checks.with("d2=3a+20b");
        OF.due("4 batches", 12 + 80, x.make(D, 4));
        thing(x, A, 0, 12, 0, 12);
        thing(x, B, 0, 80, 0, 80);
        // All batches take the first ingredient before the first one takes the second.
        ThingMaker y = Checks.with("d=b+a");
        y.allow(A, B);
        y.bring(B, 2);
        OF.due("2 of b go as b, none as a", 2, y.make(D, 2));
        thing(y, A, 0, 2, 0, 2);
        thing(y, B, 0, 0, 0, 2);
    }

    private static void yieldTimesBatches() {
        OF.sentence("then yield * b of the thing come into the store");
        ThingMaker x = Checks.with("d20=a", "f3=b");
        x.bring(D, 5);
        x.make(D, 99);
        thing(x, D, 1985, 0, 1980, 0);
        x.wish(F, 4);
        thing(x, F, 6, 0, 6, 0);
    }

    // ---- vessels

    private static void vesselAtOnce() {
        OF.sentence("as many of its vessel, if it has one, come into the store at once");
        ThingMaker x = Checks.with("d=4a");
        x.vessel(A, B);
        x.allow(A, B);
        x.bring(A, 2);
        OF.due("the vessels of 2 a go in the place of 2 more", 0, x.make(D, 1));
        thing(x, B, 0, 0, 0, 2);
        ThingMaker y = Checks.with("d=2a+2t");
        y.vessel(A, T);
        OF.due("the next ingredient takes the vessels", 2, y.make(D, 1));
        thing(y, T, 0, 0, 0, 2);
    }

    private static void vesselOfEachWay() {
        OF.sentence("Whenever an amount of a thing is used up for an ingredient, as many of its vessel, if it has one, come into the store");
        ThingMaker x = Checks.with("d=6a", "f=3b", "b2=c", "g=e", "k=h");
        x.vessel(A, T);
        x.bring(A, 2);
        x.make(D, 1);
        OF.due("2 of the store, 4 gathered", 6, x.thing(T, 9));
        x.vessel(B, T);
        x.make(F, 1);
        OF.due("3 of 4 that were made", 9, x.thing(T, 9));
        x.allow(E, B);
        x.make(G, 1);
        OF.due("a substitute of the store", 10, x.thing(T, 9));
        x.make(G, 1);
        OF.due("a substitute that is made", 11, x.thing(T, 9));
        x.allow(H, C);
        x.bring(C, 1);
        x.make(K, 1);
        OF.due("none of a thing that has none", 11, x.thing(T, 9));
        OF.due("all of them in the store", 11, x.thing(T, 0));
    }

    private static void vesselAheadOfProviding() {
        OF.sentence("ahead of what is provided for the same ingredient");
        ThingMaker x = Checks.with("d=5a", "a=b");
        x.vessel(A, B);
        x.bring(A, 2);
        OF.due("2 of 3 a are made of the vessels of those there", 1, x.make(D, 1));
        thing(x, B, 3, 1, 0, 3);
        ThingMaker y = Checks.with("d=5a", "a=b");
        y.allow(A, C);
        y.vessel(C, B);
        y.bring(C, 2);
        OF.due("2 of 3 a are made of the vessels of a substitute", 1, y.make(D, 1));
    }

    private static void noVesselForNothing() {
        OF.sentence("Whenever an amount of a thing is used up for an ingredient, as many of its vessel, if it has one, come into the store");
        ThingMaker x = Checks.with("d=2b", "f=2a");
        x.vessel(A, T);
        Checks.fill(x, T, 99999);
        OF.due("nothing of a is used up", 2, x.make(D, 1));
        x.allow(B, A);
        OF.due("nothing of a is there", 2, x.make(D, 1));
        OF.due("a is gathered, not used up", 3, x.wish(A, 3));
        OF.due("used up", FULL, x.make(F, 1));
        OF.due("full as before", 99999, x.thing(T, 0));
    }

    // ---- wishes

    private static void missingToN() {
        OF.sentence("what is missing of it in the store to n is provided");
        ThingMaker x = Checks.with("d2=a");
        x.bring(D, 5);
        x.bring(B, 5);
        OF.due("made: less than there are", 0, x.wish(D, 4));
        OF.due("made: as many", 0, x.wish(D, 5));
        thing(x, D, 5, 0, 0, 0);
        OF.due("made: one more", 1, x.wish(D, 6));
        thing(x, D, 7, 0, 2, 0);
        OF.due("gathered: less than there are", 0, x.wish(B, 4));
        OF.due("gathered: as many", 0, x.wish(B, 5));
        thing(x, B, 5, 0, 0, 0);
        OF.due("gathered: one more", 1, x.wish(B, 6));
        thing(x, B, 6, 1, 0, 0);
    }

    private static void wishByBatchesOrGathering() {
        OF.sentence("is provided as in 1 or 3 above (by batches, or by gathering");
        ThingMaker x = Checks.with("d3=2a+b");
        OF.due("by 2 batches", 6, x.wish(D, 4));
        thing(x, D, 6, 0, 6, 0);
        OF.due("by gathering", 4, x.wish(E, 4));
        thing(x, E, 4, 4, 0, 0);
    }

    private static void ownSubstitutesPlayNoPart() {
        OF.sentence("its own substitutes play no part");
        ThingMaker x = Checks.with("d=2a", "k=c");
        x.allow(D, E);
        x.allow(B, K);
        x.allow(B, E);
        x.bring(E, 50);
        OF.due("made, though a substitute is there", 4, x.wish(D, 2));
        OF.due("gathered, though one is there and one could be made", 3, x.wish(B, 3));
        thing(x, E, 50, 0, 0, 0);
        thing(x, K, 0, 0, 0, 0);
        thing(x, B, 3, 3, 0, 0);
    }

    private static void notUsed() {
        OF.sentence("but not used");
        ThingMaker x = Checks.with("d=a");
        x.vessel(D, T);
        x.vessel(B, T);
        x.bring(D, 1);
        x.wish(D, 4);
        x.wish(B, 4);
        thing(x, D, 4, 0, 3, 0);
        thing(x, B, 4, 4, 0, 0);
        thing(x, T, 0, 0, 0, 0);
    }

    private static void gatheredIsCounted() {
        OF.sentence("What is gathered is counted; nothing is refused but for the store");
        ThingMaker x = Checks.with("d=20a+20b+20c+20e+20f", "g=5d");
        OF.due("500 batches of 100", 50000, x.wish(D, 500));
        OF.due("counted", 50000, x.told(2));
        OF.due("of a", 10000, x.thing(A, 6));
        OF.due("of f", 10000, x.thing(F, 6));
        OF.due("83 batches of 500, 500 d are there", 0, x.make(G, 83));
        OF.due("nothing was gathered for them", 50000, x.told(2));
    }

    // ---- failing

    private static void aboveByABatch() {
        OF.sentence("if the amount of a thing in it would be above 99999 at any time");
        ThingMaker x = Checks.with("d7=a");
        Checks.fill(x, D, 99993);
        OF.due("100000", FULL, x.make(D, 1));
        x.bring(D, -1);
        OF.due("99999", 1, x.make(D, 1));
        OF.due("99999", 99999, x.thing(D, 0));
        ThingMaker y = Checks.with("d20=a");
        Checks.fill(y, D, 98020);
        OF.due("100000 by 99 batches", FULL, y.make(D, 99));
        OF.due("99980 by 98 batches", 98, y.make(D, 98));
    }

    private static void aboveByAVessel() {
        OF.sentence("if the amount of a thing in it would be above 99999 at any time");
        ThingMaker x = Checks.with("d=4a", "f=4b", "k=c");
        x.vessel(A, T);
        x.bring(A, 4);
        Checks.fill(x, T, 99996);
        OF.due("100000 by what is there", FULL, x.make(D, 1));
        x.bring(A, -4);
        OF.due("100000 by what is gathered", FULL, x.make(D, 1));
        x.vessel(A, NONE);
        x.vessel(K, T);
        x.allow(B, K);
        OF.due("100000 by what is made in its place", FULL, x.make(F, 1));
        x.bring(T, -1);
        OF.due("99999 by what is made in its place", 4, x.make(F, 1));
        OF.due("99999", 99999, x.thing(T, 0));
    }

    private static void aboveAtAnyTime() {
        OF.sentence("if the amount of a thing in it would be above 99999 at any time");
        ThingMaker x = Checks.with("d=a+5t");
        x.vessel(A, T);
        Checks.fill(x, T, 99999);
        OF.due("100000 ahead of using 5", FULL, x.make(D, 1));
        Checks.lay(x, "d=5t+a");
        OF.due("99994 ahead of one more", 1, x.make(D, 1));
        OF.due("99995", 99995, x.thing(T, 0));
    }

    private static void aboveForAWish() {
        OF.sentence("the wish fails, and nothing is changed");
        ThingMaker x = Checks.with("d=a", "g2=3d");
        x.vessel(A, T);
        Checks.fill(x, T, 99998);
        OF.due("1 vessel", 1, x.gather(D, 1, NONE));
        OF.due("2 vessels", FULL, x.gather(D, 2, NONE));
        OF.due("2 vessels", FULL, x.wish(D, 2));
        OF.due("3 vessels, deeper", FULL, x.wish(G, 1));
        x.bring(D, 2);
        OF.due("1 vessel, deeper", 1, x.wish(G, 1));
        OF.due("full", 99999, x.thing(T, 0));
    }

    private static void fiveHundredBatches() {
        OF.sentence("more than 500 batches of all things together would be made for this wish");
        ThingMaker x = Checks.with("d=a");
        OF.due("501 for a wish", FULL, x.wish(D, 501));
        OF.due("500 for a wish", 500, x.wish(D, 500));
        OF.due("500 were made", 500, x.told(3));
        ThingMaker y = Checks.with("d=a", "f=5d", "g=4d");
        OF.due("84 and 420", FULL, y.make(F, 84));
        OF.due("83 and 415", 415, y.make(F, 83));
        y.bring(F, 1);
        OF.due("16 and 64", 64, y.wish(G, 16));
        OF.due("99 and 396", 396, y.make(G, 99));
    }

    private static void batchesOfAllThings() {
        OF.sentence("more than 500 batches of all things together would be made for this wish");
        ThingMaker x = Checks.with("b=a", "c=a", "d=b+c", "e=d", "g=2b+3c");
        OF.due("125 of each of 4", 250, x.wish(E, 125));
        x.bring(E, -9999);
        OF.due("126 of each of 4", FULL, x.wish(E, 126));
        x.bring(C, 4);
        OF.due("126 of each but 122 of c", 248, x.wish(E, 126));
        x.bring(E, -9999);
        x.bring(C, 3);
        OF.due("126 of each but 123 of c", FULL, x.wish(E, 126));
        OF.due("83 of each of 6", 412, x.make(G, 83));
        OF.due("84 of each of 6", FULL, x.make(G, 84));
        ThingMaker y = Checks.with("d=4k", "e=f");
        y.allow(K, E);
        OF.due("100 and 400 in the place of k", 400, y.wish(D, 100));
        OF.due("101 and 404 in the place of k", FULL, y.wish(D, 201));
    }

    private static void batchesOfThisWish() {
        OF.sentence("more than 500 batches of all things together would be made for this wish");
        ThingMaker x = Checks.with("d=a");
        x.wish(D, 500);
        OF.due("those of wishes before do not count", 499, x.wish(D, 999));
        OF.due("made so far", 999, x.told(3));
        OF.due("nor do they for batches", 99, x.make(D, 99));
        x.bring(D, -9999);
        OF.due("nor for what would be", 500, x.gather(D, 500, NONE));
        OF.due("nor for what would be, again", 500, x.gather(D, 500, NONE));
    }

    private static void failureChangesNothing() {
        OF.sentence("the wish fails, and nothing is changed");
        OF.same("by too many batches", EdgeMakingTest::prepare, x -> {
            prepare(x);
            OF.due("wish", FULL, x.wish(F, 120));
            OF.due("make", FULL, x.make(F, 99));
        });
        OF.same("by the store", EdgeMakingTest::prepareFull, x -> {
            prepareFull(x);
            OF.due("wish", FULL, x.wish(F, 3));
            OF.due("make", FULL, x.make(F, 3));
        });
    }

    private static void prepare(ThingMaker x) {
        Checks.lay(x, "d=a+3b");
        Checks.lay(x, "f=5d+c");
        x.bring(A, 20);
        x.bring(B, 7);
        x.vessel(B, T);
        x.wish(F, 1);
    }

    private static void prepareFull(ThingMaker x) {
        prepare(x);
        Checks.fill(x, T, 99990);
    }
}
