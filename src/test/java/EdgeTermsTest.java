/** The sentences of the sections CONVENTIONS, THINGS, RECIPES and SUBSTITUTES that name a case, a test for each. */
public final class EdgeTermsTest {
    private static final int A = 0, B = 1, C = 2, D = 3, E = 4, F = 5, G = 6, H = 7, I = 8, J = 9, K = 10, L = 11, S = 18, T = 19;
    private static final int BAD = -1, STATE = -2, FULL = -3, NONE = -9;
    private static final Checks OF = new Checks("EdgeTermsTest");

    public static void main(String[] args) {
        fiveHundredAndTwelveCalls();
        badAheadOfState();
        badAheadOfFull();
        stateAheadOfFull();
        errorsChangeNothing();
        noneBehindErrors();
        thingsAndLetters();
        gatheredAtFirst();
        noVesselAtFirst();
        vesselWithoutVessel();
        emptyAtFirst();
        mostInTheStore();
        oneRecipeAThing();
        madeOrGathered();
        yields();
        ingredientCounts();
        amounts();
        noThingTwice();
        ranksByIngredients();
        ranksBySubstitutes();
        ranksOfGathered();
        rankOfEight();
        rankOfEightDownwards();
        rankOfNineBelow();
        notToMakeItself();
        notToMakeItselfBySubstitutes();
        threeSubstitutes();
        noOwnSubstitute();
        noSubstituteTwice();
        oneForOne();
        noSubstitutesOfSubstitutes();
        OF.end();
    }

    private static void fiveHundredAndTwelveCalls() {
        ThingMaker x = OF.sentence("An object is used for at most 512 calls after it has been made");
        for (int call = 1; call < 500; call++) {
            OF.due("call " + call, 20 * call, x.bring(A, 20));
        }
        for (int call = 500; call < 504; call++) {
            OF.due("call " + call, 9980 - 10 * (call - 499), x.bring(A, -10));
        }
        for (int call = 504; call <= 511; call++) {
            OF.due("call " + call, 511 - call, x.undo());
        }
        OF.due("call 512", 9900, x.thing(A, 0));
    }

    // ---- conventions

    private static void badAheadOfState() {
        ThingMaker x = OF.sentence("If several of them apply to one call, the first one in this list is returned.");
        OF.due("make of a gathered thing, 0 batches", BAD, x.make(A, 0));
        OF.due("make of a gathered thing, 100 batches", BAD, x.make(A, 100));
        OF.due("forget of no thing", BAD, x.forget(20));
        OF.due("back of no image", BAD, x.back(2));
        x.vessel(B, A);
        OF.due("a vessel for itself, which is one already", BAD, x.vessel(A, A));
        OF.due("a vessel with a vessel for itself", BAD, x.vessel(B, B));
        OF.due("no vessel for a vessel", BAD, x.vessel(A, 20));
        OF.due("a vessel with a vessel for no thing", BAD, x.vessel(20, B));
        x.allow(A, B);
        OF.due("no thing as a substitute", BAD, x.allow(20, B));
    }

    private static void badAheadOfFull() {
        ThingMaker x = OF.sentence("If several of them apply to one call, the first one in this list is returned.");
        Checks.fill(x, A, 99999);
        OF.due("bring of too much into a full store", BAD, x.bring(A, 10000));
        x.allow(A, B);
        x.allow(A, C);
        x.allow(A, D);
        OF.due("itself as a fourth substitute", BAD, x.allow(A, A));
        OF.due("no thing as a fourth substitute", BAD, x.allow(A, 20));
        Checks.lay(x, "s2=t");
        Checks.lay(x, "l=10k+10s");
        OF.due("a wish fails", FULL, x.wish(L, 99));
        OF.due("a wish of too many", BAD, x.wish(L, 1000));
        OF.due("too many batches", BAD, x.make(L, 100));
        OF.due("gathering of no thing", BAD, x.gather(L, 99, 20));
        OF.due("gathering for too many", BAD, x.gather(L, 1000, NONE));
        OF.due("gift for too many", BAD, x.bestGift(L, 1000));
        fillText(x);
        OF.due("text is full", FULL, x.write(' '));
        OF.due("a wrong byte into a full text", BAD, x.write(31));
        OF.due("a wrong byte into a full text", BAD, x.write(127));
    }

    private static void stateAheadOfFull() {
        ThingMaker x = OF.sentence("If several of them apply to one call, the first one in this list is returned.");
        x.allow(A, B);
        x.allow(A, C);
        x.allow(A, D);
        OF.due("the first of three again", STATE, x.allow(A, B));
        OF.due("the last of three again", STATE, x.allow(A, D));
        OF.due("a fourth one", FULL, x.allow(A, E));
    }

    private static void errorsChangeNothing() {
        OF.sentence("A call that returns one of them changes nothing, except the latest fault.");
        Checks.Calls good = EdgeTermsTest::prepare;
        Checks.Calls refused = EdgeTermsTest::callRefused;
        OF.same("refused calls in between", good, x -> { good.on(x); refused.on(x); });
        OF.same("a faulty recipe", x -> { good.on(x); x.recipe(); }, x -> { good.on(x); x.recipe(); x.recipe(); });
        OF.same("a text that is full", EdgeTermsTest::fillText, x -> {
            fillText(x);
            OF.due("full", FULL, x.write('b'));
            OF.due("wrong byte", BAD, x.write(31));
        });
        OF.same("a ring", EdgeTermsTest::makeRing, x -> { makeRing(x); OF.due("ring", STATE, x.recipe()); });
        OF.same("nothing to undo", x -> x.keep(0), x -> { x.keep(0); OF.due("undo", STATE, x.undo()); });
        OF.same("nothing kept", x -> x.bring(A, 1), x -> { x.bring(A, 1); OF.due("back", STATE, x.back(1)); });
        OF.due("the latest fault is changed", 4, faultAfter(""));
        OF.due("the latest fault is changed", 1, faultAfter("?"));
    }

    private static void prepare(ThingMaker x) {
        Checks.lay(x, "d2=3a+b");
        x.keep(0);
        x.allow(A, C);
        x.allow(A, G);
        x.allow(A, H);
        x.vessel(B, T);
        x.bring(C, 2);
        x.wish(D, 3);
        Checks.type(x, "e=d+");
    }

    private static void fillText(ThingMaker x) {
        for (int k = 0; k < 60; k++) {
            x.write(k == 0 ? 'a' : ' ');
        }
    }

    private static void makeRing(ThingMaker x) {
        prepare(x);
        Checks.type(x, "c=d");
    }

    private static int faultAfter(String text) {
        ThingMaker x = new ThingMaker();
        Checks.lay(x, "a=21b");
        Checks.lay(x, text);
        return x.fault(0);
    }

    private static void callRefused(ThingMaker x) {
        OF.due("forget", BAD, x.forget(20));
        OF.due("forget", STATE, x.forget(A));
        OF.due("allow", BAD, x.allow(B, B));
        OF.due("allow", STATE, x.allow(A, C));
        OF.due("allow", STATE, x.allow(B, D));
        OF.due("allow", FULL, x.allow(A, E));
        OF.due("forbid", BAD, x.forbid(A, 3));
        OF.due("forbid", BAD, x.forbid(A, -1));
        OF.due("vessel", BAD, x.vessel(A, A));
        OF.due("vessel", BAD, x.vessel(B, 20));
        OF.due("vessel", STATE, x.vessel(T, A));
        OF.due("vessel", STATE, x.vessel(A, B));
        OF.due("bring", BAD, x.bring(A, 10000));
        OF.due("wish", BAD, x.wish(D, 1000));
        OF.due("make", BAD, x.make(D, 100));
        OF.due("make", STATE, x.make(A, 1));
        OF.due("gather", BAD, x.gather(D, 0, A));
        OF.due("bestGift", BAD, x.bestGift(20, 1));
        OF.due("canHave", BAD, x.canHave(20));
        OF.due("write", BAD, x.write(127));
        OF.due("told", BAD, x.told(8));
        OF.due("thing", BAD, x.thing(A, 11));
        OF.due("keep", BAD, x.keep(2));
        OF.due("back", BAD, x.back(2));
        OF.due("back", STATE, x.back(1));
        OF.due("fault", BAD, x.fault(2));
    }

    private static void noneBehindErrors() {
        ThingMaker x = OF.sentence("it is returned only if no error code applies");
        OF.due("no fault, of no such kind", BAD, x.fault(2));
        OF.due("no fault, of no such kind", BAD, x.fault(-1));
        OF.due("no ingredient, of no thing", BAD, x.ingredient(20, 0, 0));
        OF.due("no ingredient, of no such kind", BAD, x.ingredient(A, 0, 2));
        OF.due("no ingredient at -1", BAD, x.ingredient(A, -1, 0));
        OF.due("no substitute of no thing", BAD, x.substitute(20, 0));
        OF.due("no substitute at -1", BAD, x.substitute(A, -1));
        OF.due("no vessel for no thing", BAD, x.vessel(20, NONE));
        OF.due("no vessel of no thing", BAD, x.thing(20, 4));
        OF.due("no yield of no thing", BAD, x.thing(-1, 2));
        OF.due("no gift for none", BAD, x.bestGift(A, 0));
        x.bring(A, 1);
        OF.due("no gift for no thing", BAD, x.bestGift(20, 1));
        OF.due("no gift", NONE, x.bestGift(A, 1));
    }

    // ---- things

    private static void thingsAndLetters() {
        ThingMaker x = OF.sentence("There are the things 0 to 19, told in texts by the letters a to t.");
        OF.due("thing -1", BAD, x.thing(-1, 0));
        OF.due("thing 0", 0, x.thing(0, 0));
        OF.due("thing 19", 0, x.thing(19, 0));
        OF.due("thing 20", BAD, x.thing(20, 0));
        OF.due("a of t", 1, Checks.lay(x, "a=t"));
        OF.due("a is 0", 1, x.thing(0, 2));
        OF.due("t is 19", 19, x.ingredient(0, 0, 0));
        OF.due("s of b", 1, Checks.lay(x, "s=b"));
        OF.due("s is 18", 1, x.thing(18, 2));
        OF.due("b is 1", 1, x.ingredient(18, 0, 0));
        String wrong = "`uzAT@";
        for (int k = 0; k < wrong.length(); k++) {
            OF.due("made: " + wrong.charAt(k), STATE, Checks.lay(x, wrong.charAt(k) + "=b"));
            OF.due("ingredient: " + wrong.charAt(k), STATE, Checks.lay(x, "c=" + wrong.charAt(k)));
        }
    }

    private static void gatheredAtFirst() {
        ThingMaker x = OF.sentence("Each is gathered at first.");
        for (int t = 0; t <= 19; t++) {
            OF.due("yield of " + t, NONE, x.thing(t, 2));
            OF.due("rank of " + t, 0, x.thing(t, 1));
            OF.due("gathered of " + t, 3, x.gather(t, 3, t));
        }
    }

    private static void noVesselAtFirst() {
        ThingMaker x = OF.sentence("A thing can have a vessel, another thing that is given back when it is used up (none at first)");
        for (int t = 0; t <= 19; t++) {
            OF.due("vessel of " + t, NONE, x.thing(t, 4));
        }
        OF.due("its own", BAD, x.vessel(A, A));
        OF.due("another thing", NONE, x.vessel(A, S));
        Checks.lay(x, "d=3a");
        x.wish(A, 4);
        OF.due("not given back ahead of use", 0, x.thing(S, 0));
        x.bring(A, -1);
        OF.due("not given back for what is taken out", 0, x.thing(S, 0));
        x.wish(D, 1);
        OF.due("given back for each that is used up", 3, x.thing(S, 0));
    }

    private static void vesselWithoutVessel() {
        ThingMaker x = OF.sentence("the vessel of a thing must have no vessel itself");
        x.vessel(A, B);
        OF.due("a vessel for the vessel", STATE, x.vessel(B, C));
        OF.due("a thing that has one as a vessel", STATE, x.vessel(C, A));
        OF.due("each other's", STATE, x.vessel(B, A));
        OF.due("one vessel for several", NONE, x.vessel(C, B));
        x.vessel(A, NONE);
        OF.due("still the vessel of another", STATE, x.vessel(B, D));
        x.vessel(C, NONE);
        OF.due("no vessel any more", NONE, x.vessel(B, D));
        OF.due("a has none any more", NONE, x.vessel(E, A));
    }

    private static void emptyAtFirst() {
        ThingMaker x = OF.sentence("The store holds from each thing an amount, 0 at first, at most 99999.");
        for (int t = 0; t <= 19; t++) {
            OF.due("store of " + t, 0, x.thing(t, 0));
        }
        OF.due("all", 0, x.told(1));
    }

    private static void mostInTheStore() {
        ThingMaker x = OF.sentence("The store holds from each thing an amount, 0 at first, at most 99999.");
        for (int t = 0; t <= 19; t++) {
            Checks.fill(x, t, 99999);
            OF.due("full of " + t, 99999, x.thing(t, 0));
            OF.due("one more of " + t, FULL, x.bring(t, 1));
        }
        OF.due("all, each for itself", 20 * 99999, x.told(1));
    }

    // ---- recipes

    private static void oneRecipeAThing() {
        ThingMaker x = OF.sentence("A thing has one recipe at most");
        Checks.lay(x, "d2=3a+b");
        Checks.lay(x, "d3=c");
        OF.due("one recipe", 1, x.told(0));
        OF.due("yield of the latter", 3, x.thing(D, 2));
        OF.due("its ingredients", 1, x.thing(D, 3));
        OF.due("only the latter is used", 1, x.gather(D, 3, NONE));
        OF.due("no recipe behind it", 3, x.forget(D));
        OF.due("no recipe behind it", STATE, x.forget(D));
    }

    private static void madeOrGathered() {
        ThingMaker x = OF.sentence("a thing with a recipe is made, others are gathered");
        Checks.lay(x, "d=a");
        OF.due("the made one is not gathered", 0, x.gather(D, 2, D));
        OF.due("the other one is", 2, x.gather(D, 2, A));
        OF.due("set of those that are made", 1 << D, x.told(5));
        x.forget(D);
        OF.due("gathered without its recipe", 2, x.gather(D, 2, D));
        OF.due("none is made", 0, x.told(5));
    }

    private static void yields() {
        ThingMaker x = OF.sentence("A recipe has a yield from 1 to 20, how many come of one batch");
        OF.due("yield 0", STATE, Checks.lay(x, "d0=a"));
        OF.due("yield 1", 1, Checks.lay(x, "d1=a"));
        x.make(D, 1);
        OF.due("1 came", 1, x.thing(D, 0));
        OF.due("yield 21", STATE, Checks.lay(x, "d21=a"));
        OF.due("yield 20", 1, Checks.lay(x, "d20=a"));
        x.make(D, 1);
        OF.due("20 came", 21, x.thing(D, 0));
        x.make(D, 2);
        OF.due("40 came", 61, x.thing(D, 0));
    }

    private static void ingredientCounts() {
        ThingMaker x = OF.sentence("1 to 5 ingredients");
        OF.due("none", STATE, Checks.lay(x, "d="));
        OF.due("1", 1, Checks.lay(x, "d=a"));
        OF.due("1 is told", 1, x.thing(D, 3));
        OF.due("5", 1, Checks.lay(x, "d=a+b+c+e+f"));
        OF.due("5 are told", 5, x.thing(D, 3));
        OF.due("6", STATE, Checks.lay(x, "d=a+b+c+e+f+g"));
        OF.due("5 are needed", 5, x.gather(D, 1, NONE));
    }

    private static void amounts() {
        ThingMaker x = OF.sentence("each a thing with an amount from 1 to 20");
        OF.due("amount 0", STATE, Checks.lay(x, "d=0a"));
        OF.due("amount 1", 1, Checks.lay(x, "d=1a"));
        OF.due("1 is needed", 1, x.gather(D, 1, NONE));
        OF.due("amount 20", 1, Checks.lay(x, "d=20a"));
        OF.due("20 are needed", 20, x.gather(D, 1, NONE));
        OF.due("amount 21", STATE, Checks.lay(x, "d=21a"));
        OF.due("amount 21 of the last one", STATE, Checks.lay(x, "d=20a+21b"));
        OF.due("amount 0 of the last one", STATE, Checks.lay(x, "d=20a+0b"));
    }

    private static void noThingTwice() {
        ThingMaker x = OF.sentence("no thing stands twice in a recipe");
        OF.due("side by side", STATE, Checks.lay(x, "d=a+a"));
        OF.due("first and last", STATE, Checks.lay(x, "d=a+b+c+e+a"));
        OF.due("with another amount", STATE, Checks.lay(x, "d=b+a+2b"));
        OF.due("the thing itself is no fault of the text", STATE, Checks.lay(x, "e=e"));
        OF.due("fault of those before", 3, x.fault(0));
        OF.due("in two recipes it can stand", 1, Checks.lay(x, "d=a+b"));
        OF.due("in two recipes it can stand", 1, Checks.lay(x, "e=b+a"));
    }

    private static void ranksByIngredients() {
        ThingMaker x = OF.sentence("that of a made one is 1 plus the greatest rank of its ingredients and of the substitutes of these");
        OF.due("of gathered ones", 1, Checks.lay(x, "b=a"));
        OF.due("of made ones", 2, Checks.lay(x, "c=b"));
        OF.due("the greatest is the first one", 3, Checks.lay(x, "d=c+b+a"));
        OF.due("the greatest is the last one", 3, Checks.lay(x, "e=a+b+c"));
        OF.due("the greatest is in the middle", 4, Checks.lay(x, "f=a+e+b"));
        OF.due("not their sum", 4, Checks.lay(x, "g=d+e+c"));
        Checks.lay(x, "b=a+k");
        OF.due("as before", 4, x.thing(G, 1));
        OF.due("one more below", 1, Checks.lay(x, "k=l"));
        OF.due("ranks above follow", 5, x.thing(G, 1));
        x.forget(C);
        OF.due("ranks above follow", 3, x.thing(D, 1));
        OF.due("the greatest one now", 4, Checks.lay(x, "g=b+d+e"));
    }

    private static void ranksBySubstitutes() {
        ThingMaker x = OF.sentence("that of a made one is 1 plus the greatest rank of its ingredients and of the substitutes of these");
        Checks.lay(x, "b=a");
        Checks.lay(x, "c=b");
        Checks.lay(x, "d=c");
        Checks.lay(x, "k=s+t");
        x.allow(T, L);
        x.allow(T, B);
        OF.due("the second substitute of the last ingredient", 2, x.thing(K, 1));
        x.allow(S, D);
        OF.due("the first substitute of the first ingredient", 4, x.thing(K, 1));
        x.allow(T, C);
        OF.due("a lesser one", 4, x.thing(K, 1));
        x.forbid(S, 0);
        OF.due("the third substitute", 3, x.thing(K, 1));
        x.allow(K, D);
        OF.due("its own substitutes play no part", 3, x.thing(K, 1));
        x.allow(L, D);
        OF.due("nor do substitutes of substitutes", 3, x.thing(K, 1));
        Checks.lay(x, "s=d");
        OF.due("an ingredient above all substitutes", 5, x.thing(K, 1));
    }

    private static void ranksOfGathered() {
        ThingMaker x = OF.sentence("The rank of a gathered thing is 0");
        Checks.lay(x, "b=a");
        Checks.lay(x, "c=b");
        x.allow(K, C);
        OF.due("whatever its substitutes are", 0, x.thing(K, 1));
        x.forget(C);
        OF.due("made no more", 0, x.thing(C, 1));
        OF.due("still made", 1, x.thing(B, 1));
    }

    private static void chain(ThingMaker x, String letters) {
        for (int k = 1; k < letters.length(); k++) {
            OF.due("chain", k, Checks.lay(x, letters.charAt(k) + "=" + letters.charAt(k - 1)));
        }
    }

    private static void rankOfEight() {
        ThingMaker x = OF.sentence("Ranks are at most 8");
        chain(x, "abcdefghi");
        OF.due("8", 8, x.thing(I, 1));
        OF.due("9", STATE, Checks.lay(x, "j=i"));
        OF.due("9 by the last ingredient", STATE, Checks.lay(x, "j=a+i"));
        OF.due("8 again", 8, Checks.lay(x, "j=h"));
        x.allow(K, I);
        OF.due("9 by a substitute", STATE, Checks.lay(x, "l=k"));
        x.forbid(K, 0);
        Checks.lay(x, "l=k");
        OF.due("9 by a new substitute", STATE, x.allow(K, I));
        OF.due("8 by a new substitute", 1, x.allow(K, H));
        OF.due("8", 8, x.thing(L, 1));
    }

    private static void rankOfEightDownwards() {
        ThingMaker x = OF.sentence("Ranks are at most 8");
        for (char letter = 'h'; letter >= 'a'; letter--) {
            OF.due("made " + letter, 'i' - letter, Checks.lay(x, letter + "=" + (char) (letter + 1)));
        }
        OF.due("8 of the first thing", 8, x.thing(A, 1));
        OF.due("9 above it", STATE, Checks.lay(x, "j=a"));
        OF.due("9 by one more below", STATE, Checks.lay(x, "i=k"));
    }

    private static void rankOfNineBelow() {
        ThingMaker x = OF.sentence("Ranks are at most 8");
        chain(x, "abcdefghi");
        OF.due("9 of the one at the top", STATE, Checks.lay(x, "a=k"));
        OF.due("9 by a substitute at the bottom", 1, Checks.lay(x, "k=l"));
        OF.due("9 by a substitute at the bottom", STATE, x.allow(A, K));
        OF.due("9 by a substitute in the middle", STATE, x.allow(C, D));
        OF.due("not by one of the same rank", 1, x.allow(A, L));
        x.forget(I);
        OF.due("8 of the one at the top", 1, x.allow(B, K));
        OF.due("8 with one more at the bottom", 2, x.allow(A, K));
        OF.due("8", 8, x.thing(H, 1));
        OF.due("9 at the top", STATE, Checks.lay(x, "i=h"));
    }

    private static void notToMakeItself() {
        ThingMaker x = OF.sentence("no thing is needed, by whatever ways over ingredients and their substitutes, to make itself");
        OF.due("itself", STATE, Checks.lay(x, "a=a"));
        OF.due("itself at the end", STATE, Checks.lay(x, "a=b+c+d+e+a"));
        Checks.lay(x, "b=a");
        OF.due("by another one", STATE, Checks.lay(x, "a=b"));
        Checks.lay(x, "c=t+b");
        Checks.lay(x, "d=c+s");
        OF.due("by three others", STATE, Checks.lay(x, "a=d"));
        OF.due("a and b can be needed twice", 4, Checks.lay(x, "e=a+b+c+d"));
        Checks.lay(x, "c=t");
        OF.due("open again", 3, Checks.lay(x, "a=d"));
    }

    private static void notToMakeItselfBySubstitutes() {
        ThingMaker x = OF.sentence("no thing is needed, by whatever ways over ingredients and their substitutes, to make itself");
        Checks.lay(x, "b=a");
        OF.due("the made one in place of its ingredient", STATE, x.allow(A, B));
        x.allow(C, B);
        OF.due("a substitute of the new ingredient needs it", STATE, Checks.lay(x, "a=d+c"));
        OF.due("a made one as its own ingredient's substitute", STATE, Checks.lay(x, "b=c"));
        Checks.lay(x, "e=c");
        OF.due("by a recipe and a substitute", STATE, x.allow(A, E));
        OF.due("b in its own place only", 1, x.allow(B, A));
        OF.due("two gathered things for each other", 1, x.allow(G, H));
        OF.due("two gathered things for each other", 1, x.allow(H, G));
        OF.due("and an ingredient of these", 1, Checks.lay(x, "f=g"));
        OF.due("but f not for h: a substitute of a substitute", 2, x.allow(H, F));
        OF.due("f for g", STATE, x.allow(G, F));
    }

    // ---- substitutes

    private static void threeSubstitutes() {
        ThingMaker x = OF.sentence("A thing can have up to 3 substitutes, in an order, the best liked one first");
        x.allow(T, J);
        x.allow(T, A);
        OF.due("3", 3, x.allow(T, F));
        OF.due("4", FULL, x.allow(T, B));
        OF.due("first", J, x.substitute(T, 0));
        OF.due("second", A, x.substitute(T, 1));
        OF.due("third", F, x.substitute(T, 2));
        Checks.lay(x, "d=t");
        x.bring(F, 1);
        x.bring(A, 1);
        x.bring(J, 1);
        x.make(D, 1);
        OF.due("the best liked one is used first", 0, x.thing(J, 0));
        x.make(D, 1);
        OF.due("then the second one", 0, x.thing(A, 0));
        OF.due("the third one is left", 1, x.thing(F, 0));
        OF.due("3 of another thing", 1, x.allow(S, J));
    }

    private static void noOwnSubstitute() {
        ThingMaker x = OF.sentence("no thing is its own substitute");
        for (int t = 0; t <= 19; t++) {
            OF.due("own of " + t, BAD, x.allow(t, t));
        }
    }

    private static void noSubstituteTwice() {
        ThingMaker x = OF.sentence("and none stands twice");
        x.allow(A, B);
        OF.due("the only one", STATE, x.allow(A, B));
        x.allow(A, C);
        OF.due("the first one", STATE, x.allow(A, B));
        OF.due("the last one", STATE, x.allow(A, C));
        OF.due("the same for another thing", 1, x.allow(D, B));
        x.forbid(A, 0);
        OF.due("again when it was removed", 2, x.allow(A, B));
        OF.due("at its new place", B, x.substitute(A, 1));
    }

    private static void oneForOne() {
        ThingMaker x = OF.sentence("One of the thing is replaced by one of the substitute");
        Checks.lay(x, "d=5a");
        x.allow(A, B);
        x.bring(B, 3);
        OF.due("3 of 5 are replaced", 2, x.gather(D, 1, A));
        x.wish(D, 1);
        OF.due("3 are used", 3, x.thing(B, 8));
        Checks.lay(x, "b4=c");
        x.make(D, 1);
        OF.due("5 of 8 are used", 3, x.thing(B, 0));
    }

    private static void noSubstitutesOfSubstitutes() {
        ThingMaker x = OF.sentence("substitutes of a substitute do not come in by this");
        Checks.lay(x, "d=a");
        Checks.lay(x, "k=c");
        x.allow(A, B);
        x.allow(B, K);
        x.bring(K, 1);
        OF.due("one that is there", 1, x.gather(D, 1, A));
        x.wish(D, 1);
        OF.due("it stays", 1, x.thing(K, 0));
        x.bring(K, -1);
        OF.due("one that could be made", 1, x.gather(D, 2, A));
        OF.due("not needed", 0, x.isNeeded(K, D));
        OF.due("rank without it", 1, x.thing(D, 1));
    }
}
