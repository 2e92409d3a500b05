/** The sentences of promises 14 to 24 that name a case, a test for each. */
public final class EdgeAnswersTest {
    private static final int A = 0, B = 1, C = 2, D = 3, E = 4, F = 5, G = 6, K = 10, S = 18, T = 19;
    private static final int BAD = -1, STATE = -2, FULL = -3, NONE = -9;
    private static final int MIN = Integer.MIN_VALUE, MAX = Integer.MAX_VALUE;
    private static final int[] NO_THINGS = {-1, 20, 21, 97, MIN, MAX};
    private static final Checks OF = new Checks("EdgeAnswersTest");

    public static void main(String[] args) {
        toldNumbers();
        toldGreatestRank();
        toldOutOfRange();
        thingNone();
        thingAccounts();
        thingReallyBrought();
        thingNoThing();
        thingOutOfRange();
        ingredientNone();
        ingredientBad();
        substituteNone();
        substituteBad();
        neededByEachWay();
        neededNotForItself();
        neededNoThing();
        shareOfAll();
        shareConvertsBoth();
        shareOfNone();
        gatherOf();
        gatherNoThing();
        gatherFails();
        canHaveFromNothingToAll();
        canHaveWhateverLesserNumbersNeed();
        canHaveWithinTheWish();
        canHaveOfEachRank();
        canHaveNoThing();
        giftThatIsBest();
        giftTheLowest();
        giftThatWouldFail();
        giftNone();
        giftNoThing();
        giftFails();
        onlyInACopy();
        keepReplaces();
        keepExcept();
        keepIsNoChange();
        keepNoImage();
        backToTheImage();
        backTheImageStays();
        backIsRecorded();
        backNoImage();
        backNothingKept();
        OF.end();
    }

    // ---- promise 14

    private static void toldNumbers() {
        ThingMaker x = OF.sentence("5 the set of things that are made (bit k for thing k)");
        Checks.lay(x, "a=b");
        OF.due("bit 0", 1, x.told(5));
        OF.due("greatest rank, of the first thing", 1, x.told(4));
        Checks.lay(x, "t=a");
        OF.due("bit 0 and bit 19", 1 | 1 << 19, x.told(5));
        OF.due("recipes", 2, x.told(0));
        OF.due("greatest rank, of the last thing", 2, x.told(4));
        x.wish(T, 2);
        x.bring(K, 7);
        OF.due("things in the store", 9, x.told(1));
        OF.due("gathered", 2, x.told(2));
        OF.due("batches", 4, x.told(3));
        OF.due("bytes", 3, x.told(6));
        OF.due("changes", 4, x.told(7));
        x.forget(A);
        OF.due("bit 19", 1 << 19, x.told(5));
        OF.due("greatest rank", 1, x.told(4));
    }

    private static void toldGreatestRank() {
        ThingMaker x = OF.sentence("4 the greatest rank");
        OF.due("no recipes", 0, x.told(4));
        Checks.lay(x, "k=s");
        Checks.lay(x, "f=k");
        OF.due("of the lower one of two", 2, x.told(4));
        Checks.lay(x, "b=s");
        OF.due("of the second one of three, not the latest one", 2, x.told(4));
        Checks.lay(x, "t=a");
        Checks.lay(x, "e=a+b+c+d");
        OF.due("of two with rank 2 among five", 2, x.told(4));
        x.allow(C, F);
        OF.due("by the substitute of an ingredient", 3, x.told(4));
        x.forbid(C, 0);
        OF.due("without it", 2, x.told(4));
        x.forget(F);
        OF.due("e is left with rank 2", 2, x.told(4));
        x.forget(B);
        OF.due("four recipes of rank 1", 1, x.told(4));
        x.undo();
        OF.due("undone", 2, x.told(4));
    }

    private static void toldOutOfRange() {
        ThingMaker x = OF.sentence("BAD if what is out of range");
        int[] none = {-1, 8, NONE, MIN, MAX};
        for (int what : none) {
            OF.due("told(" + what + ")", BAD, x.told(what));
        }
        OF.due("told(0)", 0, x.told(0));
        OF.due("told(7)", 0, x.told(7));
    }

    // ---- promise 15

    private static void thingNone() {
        ThingMaker x = OF.sentence("2 the yield of its recipe (NONE if it has none); 3 the number of its ingredients (NONE likewise); 4 its vessel (NONE if it has none)");
        OF.due("yield", NONE, x.thing(D, 2));
        OF.due("ingredients", NONE, x.thing(D, 3));
        OF.due("vessel", NONE, x.thing(D, 4));
        OF.due("substitutes: 0, not NONE", 0, x.thing(D, 5));
        Checks.lay(x, "d4=a+b+c");
        x.vessel(D, A);
        x.allow(D, T);
        OF.due("yield", 4, x.thing(D, 2));
        OF.due("ingredients", 3, x.thing(D, 3));
        OF.due("vessel, the thing 0", 0, x.thing(D, 4));
        OF.due("substitutes", 1, x.thing(D, 5));
        x.forget(D);
        x.vessel(D, NONE);
        OF.due("yield then", NONE, x.thing(D, 2));
        OF.due("ingredients then", NONE, x.thing(D, 3));
        OF.due("vessel then", NONE, x.thing(D, 4));
    }

    private static void thingAccounts() {
        ThingMaker x = OF.sentence("8 how many were used up for ingredients so far, also in place of others; 9 how many came back as vessels so far");
        Checks.lay(x, "d2=3a");
        Checks.lay(x, "e=d");
        x.allow(A, B);
        x.vessel(B, T);
        x.bring(B, 2);
        x.wish(D, 1);
        OF.due("gathered of a", 1, x.thing(A, 6));
        OF.due("made of d", 2, x.thing(D, 7));
        OF.due("used of a", 1, x.thing(A, 8));
        OF.due("used of b, in place of a", 2, x.thing(B, 8));
        OF.due("came back of t", 2, x.thing(T, 9));
        OF.due("what is wished is not used", 0, x.thing(D, 8));
        x.wish(E, 1);
        OF.due("used of d", 1, x.thing(D, 8));
        x.bring(T, -2);
        x.bring(D, -1);
        OF.due("so far: also if it was taken out", 2, x.thing(T, 9));
        OF.due("so far: also if it was taken out", 2, x.thing(D, 7));
        OF.due("taken out is not used", 1, x.thing(D, 8));
    }

    private static void thingReallyBrought() {
        ThingMaker x = OF.sentence("10 how many were really brought by hand so far (what was taken out counts negative)");
        x.bring(A, 5);
        x.bring(A, -9);
        OF.due("5 less 5", 0, x.thing(A, 10));
        x.wish(A, 7);
        OF.due("gathered ones are not brought", 0, x.thing(A, 10));
        x.bring(A, -4);
        OF.due("taken out", -4, x.thing(A, 10));
        x.bring(A, -4);
        OF.due("only those that were there", -7, x.thing(A, 10));
        x.bring(A, 10);
        OF.due("brought again", 3, x.thing(A, 10));
        Checks.fill(x, B, 99999);
        x.bring(B, 9999);
        OF.due("what was refused does not count", 99999, x.thing(B, 10));
    }

    private static void thingNoThing() {
        ThingMaker x = OF.sentence("BAD if there is no such thing or what is out of range");
        for (int t : NO_THINGS) {
            for (int what = 0; what <= 10; what++) {
                OF.due("thing(" + t + ", " + what + ")", BAD, x.thing(t, what));
            }
        }
        OF.due("thing(-9, 0)", BAD, x.thing(NONE, 0));
    }

    private static void thingOutOfRange() {
        ThingMaker x = OF.sentence("BAD if there is no such thing or what is out of range");
        int[] none = {-1, 11, NONE, MIN, MAX};
        for (int what : none) {
            OF.due("thing(0, " + what + ")", BAD, x.thing(A, what));
            OF.due("thing(19, " + what + ")", BAD, x.thing(T, what));
        }
        OF.due("thing(0, 0)", 0, x.thing(A, 0));
        OF.due("thing(19, 10)", 0, x.thing(T, 10));
    }

    // ---- promises 16 and 17

    private static void ingredientNone() {
        ThingMaker x = OF.sentence("NONE if there are not so many; BAD if there is no such thing, k is negative, or what is out of range.");
        Checks.lay(x, "d=2a+3b+4c+5e+6f");
        OF.due("k 4", 6, x.ingredient(D, 4, 1));
        OF.due("k 5", NONE, x.ingredient(D, 5, 1));
        OF.due("k max", NONE, x.ingredient(D, MAX, 0));
        Checks.lay(x, "d=2a");
        OF.due("k 0", A, x.ingredient(D, 0, 0));
        OF.due("k 0", 2, x.ingredient(D, 0, 1));
        OF.due("k 1 of 1", NONE, x.ingredient(D, 1, 0));
        OF.due("k 0 of a gathered thing", NONE, x.ingredient(A, 0, 0));
        x.forget(D);
        OF.due("k 0 of a forgotten recipe", NONE, x.ingredient(D, 0, 1));
    }

    private static void ingredientBad() {
        ThingMaker x = OF.sentence("NONE if there are not so many; BAD if there is no such thing, k is negative, or what is out of range.");
        Checks.lay(x, "d=2a");
        for (int t : NO_THINGS) {
            OF.due("thing " + t, BAD, x.ingredient(t, 0, 0));
        }
        int[] negative = {-1, NONE, MIN};
        for (int k : negative) {
            OF.due("k " + k, BAD, x.ingredient(D, k, 0));
            OF.due("k " + k + " of a gathered thing", BAD, x.ingredient(A, k, 1));
        }
        int[] none = {-1, 2, NONE, MIN, MAX};
        for (int what : none) {
            OF.due("what " + what, BAD, x.ingredient(D, 0, what));
            OF.due("what " + what + " where there are not so many", BAD, x.ingredient(D, 9, what));
        }
    }

    private static void substituteNone() {
        ThingMaker x = OF.sentence("NONE if there are not so many; BAD if there is no such thing or k is negative.");
        OF.due("k 0 of 0", NONE, x.substitute(A, 0));
        x.allow(A, T);
        x.allow(B, C);
        OF.due("k 0 of 1", T, x.substitute(A, 0));
        OF.due("k 1 of 1", NONE, x.substitute(A, 1));
        x.allow(A, S);
        x.allow(A, K);
        OF.due("k 2 of 3", K, x.substitute(A, 2));
        OF.due("k 3 of 3", NONE, x.substitute(A, 3));
        OF.due("k max", NONE, x.substitute(A, MAX));
        x.forbid(A, 2);
        OF.due("k 2 of 2", NONE, x.substitute(A, 2));
    }

    private static void substituteBad() {
        ThingMaker x = OF.sentence("NONE if there are not so many; BAD if there is no such thing or k is negative.");
        x.allow(A, T);
        for (int t : NO_THINGS) {
            OF.due("thing " + t, BAD, x.substitute(t, 0));
        }
        int[] negative = {-1, NONE, MIN};
        for (int k : negative) {
            OF.due("k " + k, BAD, x.substitute(A, k));
            OF.due("k " + k + " of none", BAD, x.substitute(B, k));
        }
    }

    // ---- promise 18

    private static void neededByEachWay() {
        ThingMaker x = OF.sentence("whether it is an ingredient of it, or a substitute of one, or can be needed for one of these");
        Checks.lay(x, "d=a+b");
        x.allow(B, C);
        OF.due("an ingredient", 1, x.isNeeded(A, D));
        OF.due("the last ingredient", 1, x.isNeeded(B, D));
        OF.due("a substitute of one", 1, x.isNeeded(C, D));
        OF.due("not the other way round", 0, x.isNeeded(D, A));
        Checks.lay(x, "e=d");
        OF.due("for one of these", 1, x.isNeeded(C, E));
        Checks.lay(x, "c=f");
        OF.due("for a substitute", 1, x.isNeeded(F, E));
        OF.due("another one", 0, x.isNeeded(G, E));
        x.allow(D, G);
        OF.due("a substitute of the made ingredient", 1, x.isNeeded(G, E));
        OF.due("its own substitute is not needed", 0, x.isNeeded(G, D));
        x.allow(G, S);
        OF.due("a substitute of a substitute", 0, x.isNeeded(S, E));
        OF.due("for a gathered thing, its substitute", 0, x.isNeeded(C, B));
        Checks.lay(x, "a=t");
        OF.due("for the first thing", 1, x.isNeeded(T, E));
        for (int k = F + 1; k <= F + 6; k++) {
            Checks.lay(x, (char) ('a' + k) + "=" + (char) ('a' + k - 1));
        }
        OF.due("a long way", 1, x.isNeeded(F, F + 6));
        OF.due("a long way back", 0, x.isNeeded(F + 6, F));
    }

    private static void neededNotForItself() {
        ThingMaker x = OF.sentence("otherwise 0 (also for the same thing twice)");
        Checks.lay(x, "d=a");
        x.allow(D, A);
        for (int t = 0; t < 20; t++) {
            OF.due("thing " + t, 0, x.isNeeded(t, t));
        }
    }

    private static void neededNoThing() {
        ThingMaker x = OF.sentence("otherwise 0 (also for the same thing twice); BAD if there is no such thing.");
        Checks.lay(x, "a=b");
        for (int t : NO_THINGS) {
            OF.due("isNeeded(" + t + ", 0)", BAD, x.isNeeded(t, A));
            OF.due("isNeeded(0, " + t + ")", BAD, x.isNeeded(A, t));
            OF.due("isNeeded(" + t + ", " + t + ")", BAD, x.isNeeded(t, t));
        }
        OF.due("isNeeded(-9, 0)", BAD, x.isNeeded(NONE, A));
        OF.due("isNeeded(0, -9)", BAD, x.isNeeded(A, NONE));
    }

    // ---- promise 19

    private static void shareOfAll() {
        ThingMaker x = OF.sentence("the first number divided by the sum of both, both converted to float");
        Checks.lay(x, "d2=a");
        x.vessel(A, T);
        x.wish(D, 2);
        OF.dueFloat("1 of 3", 1.0f / 3.0f, x.share());
        x.bring(C, 500);
        OF.dueFloat("what was brought does not count, nor what came back", 1.0f / 3.0f, x.share());
        x.wish(B, 4);
        OF.dueFloat("5 of 7", 5.0f / 7.0f, x.share());
        x.make(D, 1);
        OF.dueFloat("6 of 10", 6.0f / 10.0f, x.share());
        x.bring(A, 1);
        x.make(D, 1);
        OF.dueFloat("6 of 12, what was used still counts", 0.5f, x.share());
        ThingMaker y = new ThingMaker();
        y.wish(A, 1);
        OF.dueFloat("one, gathered", 1.0f, y.share());
        y.wish(A, 999);
        OF.dueFloat("gathered only", 1.0f, y.share());
        ThingMaker z = Checks.with("d=a");
        z.bring(A, 9);
        z.wish(D, 9);
        OF.dueFloat("made only", 0.0f, z.share());
    }

    /** Floats hold each number up to 2 to the 24th, so it takes more than that to see what is converted to them. */
    private static void shareConvertsBoth() {
        ThingMaker x = OF.sentence("the first number divided by the sum of both, both converted to float");
        Checks.lay(x, "k=20f+20g+20h+20i+20j");
        Checks.lay(x, "d=4k+20a+20b+20c+20e");
        for (int k = 0; k < 357; k++) {
            x.make(D, 99);
        }
        OF.due("gathered", 16964640, x.told(2));
        OF.due("batches, of 1 each", 176715, x.told(3));
        OF.dueFloat("share", 16964640.0f / 17141355.0f, x.share());
    }

    private static void shareOfNone() {
        ThingMaker x = OF.sentence("Returns the share, 0.0 if there were none.");
        OF.dueFloat("at first", 0.0f, x.share());
        x.bring(A, 5);
        x.wish(A, 5);
        OF.dueFloat("brought only", 0.0f, x.share());
        x.wish(A, 6);
        x.undo();
        OF.dueFloat("undone", 0.0f, x.share());
    }

    // ---- promise 20

    private static void gatherOf() {
        ThingMaker x = OF.sentence("the thing that is gathered, or NONE for all together");
        Checks.lay(x, "d2=3a+b");
        x.vessel(A, T);
        x.bring(B, 1);
        OF.due("all", 7, x.gather(D, 4, NONE));
        OF.due("of a", 6, x.gather(D, 4, A));
        OF.due("of b", 1, x.gather(D, 4, B));
        OF.due("of d, which is made", 0, x.gather(D, 4, D));
        OF.due("of t, which comes back", 0, x.gather(D, 4, T));
        x.wish(D, 4);
        OF.due("none for what is there", 0, x.gather(D, 4, NONE));
        OF.due("those before do not count", 0, x.gather(D, 4, A));
        OF.due("those before do not count", 3, x.gather(D, 5, A));
    }

    private static void gatherNoThing() {
        ThingMaker x = OF.sentence("BAD if there is no such thing or n is out of range; FULL if the wish would fail.");
        for (int t : NO_THINGS) {
            OF.due("gather(" + t + ", 1, 0)", BAD, x.gather(t, 1, A));
            OF.due("gather(" + t + ", 1, NONE)", BAD, x.gather(t, 1, NONE));
            OF.due("gather(0, 1, " + t + ")", BAD, x.gather(A, 1, t));
        }
        OF.due("gather(-9, 1, 0)", BAD, x.gather(NONE, 1, A));
        OF.due("gather(0, 1, -8)", BAD, x.gather(A, 1, -8));
        OF.due("gather(0, 1, -10)", BAD, x.gather(A, 1, -10));
        OF.due("gather(0, 1, 19)", 0, x.gather(A, 1, T));
    }

    private static void gatherFails() {
        ThingMaker x = OF.sentence("BAD if there is no such thing or n is out of range; FULL if the wish would fail.");
        Checks.lay(x, "d=a");
        OF.due("500", 500, x.gather(D, 500, NONE));
        OF.due("501", FULL, x.gather(D, 501, NONE));
        OF.due("501 of b", FULL, x.gather(D, 501, B));
        x.vessel(A, T);
        Checks.fill(x, T, 99990);
        OF.due("9 vessels", 9, x.gather(D, 9, A));
        OF.due("10 vessels", FULL, x.gather(D, 10, A));
    }

    // ---- promise 21

    private static void canHaveFromNothingToAll() {
        ThingMaker x = OF.sentence("Returns the greatest number from 0 to 999 of which a wish would come true without gathering");
        Checks.lay(x, "d2=3a");
        OF.due("nothing", 0, x.canHave(D));
        x.bring(A, 2);
        OF.due("a part of a batch", 0, x.canHave(D));
        x.bring(A, 1);
        OF.due("a batch", 2, x.canHave(D));
        x.bring(D, 1);
        OF.due("a batch and one that is there", 3, x.canHave(D));
        OF.due("gathered: what is there", 3, x.canHave(A));
        OF.due("gathered: nothing", 0, x.canHave(B));
        x.bring(B, 998);
        OF.due("998", 998, x.canHave(B));
        x.bring(B, 1);
        OF.due("999", 999, x.canHave(B));
        x.bring(B, 1);
        OF.due("999 of 1000", 999, x.canHave(B));
        x.bring(D, 995);
        OF.due("996 and a batch", 998, x.canHave(D));
        x.bring(A, 3);
        OF.due("996 and two batches", 999, x.canHave(D));
        x.bring(D, 5000);
        OF.due("5996", 999, x.canHave(D));
        x.allow(C, B);
        OF.due("substitutes of what is wished play no part", 0, x.canHave(C));
    }

    private static void canHaveWhateverLesserNumbersNeed() {
        ThingMaker x = OF.sentence("whatever lesser numbers need (0 needs nothing)");
        // 1 f takes the c that is there and wants an e; for 2 f one c is made, and what it is made of gives back e.
        Checks.lay(x, "f=c+e");
        Checks.lay(x, "c=2a");
        x.vessel(A, E);
        x.bring(A, 2);
        x.bring(C, 1);
        OF.due("1 needs one", 1, x.gather(F, 1, NONE));
        OF.due("2 need none", 0, x.gather(F, 2, NONE));
        OF.due("so 2 can be had", 2, x.canHave(F));
        x.bring(C, -1);
        x.bring(A, -2);
        OF.due("each number needs some", 0, x.canHave(F));
    }

    private static void canHaveWithinTheWish() {
        ThingMaker x = OF.sentence("of which a wish would come true without gathering");
        Checks.lay(x, "d=a");
        Checks.fill(x, A, 99999);
        OF.due("500 batches", 500, x.canHave(D));
        Checks.lay(x, "d2=a");
        OF.due("500 batches of 2", 999, x.canHave(D));
        x.vessel(A, T);
        Checks.fill(x, T, 99996);
        OF.due("3 vessels fit", 6, x.canHave(D));
        x.bring(T, 3);
        OF.due("no vessel fits", 0, x.canHave(D));
        // 52 batches need nothing, as the vessels e of a are enough by then; but 50 are enough for 999.
        ThingMaker y = Checks.with("f20=c+e", "c=2a");
        y.vessel(A, E);
        y.bring(A, 9999);
        y.bring(C, 26);
        OF.due("50 batches for 999", 2, y.gather(F, 999, NONE));
        y.bring(F, 40);
        OF.due("no wish makes more batches than it needs", 40, y.canHave(F));
    }

    private static void canHaveOfEachRank() {
        OF.sentence("Finds how many of a thing could be had without gathering anything.");
        String[] recipes = {"b2=a", "c=b", "d=c", "e=d", "f=e", "g=f", "h=g", "i=h"};
        ThingMaker x = Checks.with(recipes);
        for (int t = A; t <= A + 8; t++) {
            x.bring(t, 1);
        }
        // Each has one of its own and what can be made of all below it; the one a makes two b.
        for (int rank = 1; rank <= 8; rank++) {
            OF.due("the rank", rank, x.thing(rank, 1));
            OF.due("with one of each, rank " + rank, rank + 2, x.canHave(rank));
        }
        OF.due("a", 1, x.canHave(A));
        x.bring(A, -1);
        OF.due("two less without a", 8, x.canHave(A + 8));
    }

    private static void canHaveNoThing() {
        ThingMaker x = OF.sentence("(0 needs nothing); BAD if there is no such thing.");
        for (int t : NO_THINGS) {
            OF.due("canHave(" + t + ")", BAD, x.canHave(t));
        }
        OF.due("canHave(-9)", BAD, x.canHave(NONE));
        OF.due("canHave(19)", 0, x.canHave(T));
    }

    // ---- promise 22

    private static void giftThatIsBest() {
        ThingMaker x = OF.sentence("Finds the single thing of which one more in the store would make the gathering for a wish least");
        Checks.lay(x, "d=2a+b+3c");
        Checks.lay(x, "e=d+a");
        OF.due("itself", E, x.bestGift(E, 1));
        OF.due("itself, of several too", E, x.bestGift(E, 7));
        Checks.lay(x, "e9=d+a");
        OF.due("e saves none, d saves 6, a 1", D, x.bestGift(E, 5));
        x.bring(D, 1);
        OF.due("of d there is enough, a saves 1", A, x.bestGift(E, 5));
        OF.due("what is there is not changed", 1, x.gather(E, 5, NONE));
    }

    private static void giftTheLowest() {
        ThingMaker x = OF.sentence("Returns the thing, of several the lowest one");
        Checks.lay(x, "t9=s+b+a");
        OF.due("a of a, b and s", A, x.bestGift(T, 2));
        x.bring(A, 1);
        OF.due("b of b and s", B, x.bestGift(T, 2));
        x.bring(B, 1);
        OF.due("s alone", S, x.bestGift(T, 2));
        x.allow(S, C);
        OF.due("c in its place", C, x.bestGift(T, 2));
    }

    private static void giftThatWouldFail() {
        ThingMaker x = OF.sentence("things with which the wish would fail do not count");
        Checks.lay(x, "d2=b+c");
        x.allow(B, A);
        OF.due("a in place of b", A, x.bestGift(D, 2));
        x.vessel(A, T);
        OF.due("its vessel fits", A, x.bestGift(D, 2));
        Checks.fill(x, T, 99999);
        OF.due("its vessel does not fit", B, x.bestGift(D, 2));
        Checks.fill(x, S, 99999);
        Checks.lay(x, "d2=s+c");
        OF.due("no more of s fits, and none is needed", C, x.bestGift(D, 2));
    }

    private static void giftNone() {
        ThingMaker x = OF.sentence("NONE if none makes it less");
        Checks.lay(x, "d=a");
        x.bring(D, 3);
        OF.due("nothing to be gathered", NONE, x.bestGift(D, 3));
        OF.due("one to be gathered", A, x.bestGift(D, 4));
        x.bring(A, 1);
        OF.due("nothing to be gathered", NONE, x.bestGift(D, 4));
        // b stands in for k, which could be made of what is there; b is gathered all the same.
        ThingMaker y = Checks.with("d9=k+b", "k=c");
        y.allow(K, B);
        y.bring(C, 5);
        OF.due("one to be gathered", 1, y.gather(D, 2, B));
        OF.due("which no gift makes less", NONE, y.bestGift(D, 2));
    }

    private static void giftNoThing() {
        ThingMaker x = OF.sentence("NONE if none makes it less; BAD if there is no such thing or n is out of range; FULL if the wish would fail.");
        for (int t : NO_THINGS) {
            OF.due("bestGift(" + t + ", 1)", BAD, x.bestGift(t, 1));
        }
        OF.due("bestGift(-9, 1)", BAD, x.bestGift(NONE, 1));
        OF.due("bestGift(0, 0)", BAD, x.bestGift(A, 0));
        OF.due("bestGift(0, 1000)", BAD, x.bestGift(A, 1000));
        OF.due("bestGift(19, 1)", T, x.bestGift(T, 1));
    }

    private static void giftFails() {
        ThingMaker x = OF.sentence("NONE if none makes it less; BAD if there is no such thing or n is out of range; FULL if the wish would fail.");
        Checks.lay(x, "d=a");
        OF.due("500 batches", A, x.bestGift(D, 500));
        OF.due("501 batches, though with one more d it would not fail", FULL, x.bestGift(D, 501));
        x.vessel(A, T);
        Checks.fill(x, T, 99999);
        OF.due("a vessel, though with one more d it would not fail", FULL, x.bestGift(D, 1));
    }

    private static void onlyInACopy() {
        OF.sentence("what would be: everything happens in a copy");
        OF.same("asked only", EdgeAnswersTest::prepare, x -> {
            prepare(x);
            OF.due("gather", 8, x.gather(D, 6, NONE));
            OF.due("gather of one", 6, x.gather(D, 6, A));
            OF.due("gather too many", FULL, x.gather(D, 999, NONE));
            OF.due("canHave", 3, x.canHave(D));
            OF.due("canHave", 4, x.canHave(K));
            OF.due("bestGift", D, x.bestGift(D, 5));
            OF.due("bestGift of too many", FULL, x.bestGift(D, 999));
        });
    }

    private static void prepare(ThingMaker x) {
        Checks.lay(x, "d=2a+b");
        x.vessel(A, T);
        x.bring(A, 3);
        x.bring(B, 5);
        x.bring(D, 0);
        x.allow(A, K);
        x.bring(K, 5);
        x.keep(0);
        x.wish(D, 2);
        x.bring(D, -1);
    }

    // ---- promise 23

    private static void keepReplaces() {
        ThingMaker x = OF.sentence("in an image, replacing what it kept before");
        x.bring(A, 1);
        x.keep(0);
        x.keep(1);
        x.bring(A, 1);
        x.keep(1);
        x.bring(A, 1);
        x.back(1);
        OF.due("what was kept last", 2, x.thing(A, 0));
        x.back(0);
        OF.due("the other image is not replaced", 1, x.thing(A, 0));
        OF.due("no recipes", 0, x.keep(0));
        Checks.lay(x, "d=a");
        OF.due("recipes", 1, x.keep(0));
    }

    private static void keepExcept() {
        ThingMaker x = OF.sentence("Keeps everything, except the text, the latest fault, the images and what can be undone");
        Checks.lay(x, "d=0a");
        x.bring(A, 1);
        x.keep(0);
        x.keep(1);
        x.wipe();
        Checks.lay(x, "d==");
        x.bring(A, 1);
        x.bring(A, 1);
        x.keep(1);
        x.back(0);
        OF.due("the text is not kept", 3, x.told(6));
        OF.due("nor the fault", 1, x.fault(0));
        OF.due("nor the images", 0, x.back(1));
        OF.due("image 1 keeps what it kept later", 3, x.thing(A, 0));
        OF.due("nor what can be undone", 5, x.told(7));
        OF.dueText("all else is kept", Checks.stateAfter(EdgeAnswersTest::prepare), Checks.stateAfter(EdgeAnswersTest::prepare,
                y -> y.keep(1), y -> y.wish(D, 9), y -> y.forget(D), y -> y.forbid(A, 0), y -> y.vessel(A, S), y -> y.back(1)));
    }

    private static void keepIsNoChange() {
        ThingMaker x = OF.sentence("(This is no change.)");
        x.keep(0);
        x.keep(1);
        OF.due("nothing to be undone", 0, x.told(7));
        x.bring(A, 1);
        x.keep(0);
        OF.due("one change", 1, x.told(7));
        OF.due("undo", 0, x.undo());
        OF.due("undoes the change", 0, x.thing(A, 0));
        x.back(0);
        OF.due("not the image", 1, x.thing(A, 0));
    }

    private static void keepNoImage() {
        ThingMaker x = OF.sentence("Returns the number of recipes; BAD if there is no such image.");
        int[] none = {-1, 2, NONE, MIN, MAX};
        for (int i : none) {
            OF.due("keep(" + i + ")", BAD, x.keep(i));
        }
        OF.due("nothing is kept", STATE, x.back(0));
        OF.due("nothing is kept", STATE, x.back(1));
        OF.due("image 0", 0, x.keep(0));
        OF.due("image 1", 0, x.keep(1));
    }

    // ---- promise 24

    private static void backToTheImage() {
        ThingMaker x = OF.sentence("Returns the number of recipes then");
        Checks.lay(x, "d=a");
        Checks.lay(x, "e=d");
        x.keep(0);
        x.forget(D);
        x.keep(1);
        x.forget(E);
        OF.due("2", 2, x.back(0));
        OF.due("told", 2, x.told(0));
        OF.due("rank", 2, x.thing(E, 1));
        OF.due("1", 1, x.back(1));
        OF.due("rank", 1, x.thing(E, 1));
        OF.due("undone", 5, x.undo());
        OF.due("2 again", 2, x.told(0));
    }

    private static void backTheImageStays() {
        ThingMaker x = OF.sentence("the image stays");
        x.bring(A, 1);
        x.keep(0);
        for (int k = 0; k < 3; k++) {
            x.bring(A, 10);
            OF.due("back " + k, 0, x.back(0));
            OF.due("as it was kept", 1, x.thing(A, 0));
        }
        x.undo();
        OF.due("undone", 11, x.thing(A, 0));
        x.back(0);
        OF.due("as it was kept", 1, x.thing(A, 0));
    }

    private static void backIsRecorded() {
        ThingMaker x = OF.sentence("This is a change: it is recorded behind those that are recorded already.");
        x.keep(0);
        for (int k = 0; k < 7; k++) {
            x.bring(A, 1);
        }
        x.back(0);
        OF.due("the eighth", 8, x.told(7));
        OF.due("undone first", 7, x.undo());
        OF.due("undone first", 7, x.thing(A, 0));
        OF.due("then those before it", 6, x.undo());
        OF.due("then those before it", 6, x.thing(A, 0));
        for (int k = 0; k < 9; k++) {
            x.back(0);
        }
        Checks.undo(x, 8);
        OF.due("the oldest ones are dropped", STATE, x.undo());
        OF.due("the first back stays", 0, x.thing(A, 0));
    }

    private static void backNoImage() {
        ThingMaker x = OF.sentence("BAD if there is no such image; STATE if nothing was kept in it.");
        x.keep(0);
        x.keep(1);
        int[] none = {-1, 2, NONE, MIN, MAX};
        for (int i : none) {
            OF.due("back(" + i + ")", BAD, x.back(i));
        }
        OF.due("back(1)", 0, x.back(1));
    }

    private static void backNothingKept() {
        ThingMaker x = OF.sentence("BAD if there is no such image; STATE if nothing was kept in it.");
        OF.due("image 0", STATE, x.back(0));
        OF.due("image 1", STATE, x.back(1));
        x.keep(1);
        OF.due("image 0 still", STATE, x.back(0));
        OF.due("image 1", 0, x.back(1));
        ThingMaker y = new ThingMaker();
        y.keep(0);
        OF.due("image 1 of another object", STATE, y.back(1));
        OF.due("image 0 of another object", 0, y.back(0));
    }
}
