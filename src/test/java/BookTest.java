/** Promises 2 recipe, 3 forget, 4 allow, 5 forbid, 6 vessel, 16 ingredient, 17 substitute, 18 isNeeded. */
public final class BookTest {
    private static final int[] NO_THINGS = {-1, 20, -9, Integer.MIN_VALUE, Integer.MAX_VALUE};
    private static final Checks C = new Checks("BookTest");

    public static void main(String[] args) {
        recipe();
        ranks();
        rings();
        forget();
        allow();
        allowAndRanks();
        forbid();
        vessel();
        ingredient();
        substitute();
        isNeeded();
        C.end();
    }

    private static void recipe() {
        ThingMaker x = new ThingMaker();
        C.due("first recipe", 1, Checks.lay(x, "d2=3a+b"));
        C.due("a change", 1, x.told(7));
        C.due("second recipe", 2, Checks.lay(x, "f=d+2c"));
        C.due("text stays, so it can be laid again", 2, x.recipe());
        C.due("a change though the same", 3, x.told(7));
        C.due("recipes", 2, x.told(0));
        C.due("another for the same thing", 1, Checks.lay(x, "f3=b"));
        C.due("one recipe a thing", 2, x.told(0));
        C.due("new yield", 3, x.thing(5, 2));
        C.due("new count", 1, x.thing(5, 3));
        C.due("old second ingredient is gone", -9, x.ingredient(5, 1, 0));
        C.due("undo", 3, x.undo());
        C.due("old yield", 1, x.thing(5, 2));
        C.due("old ingredient", 3, x.ingredient(5, 0, 0));
        C.due("old amount", 2, x.ingredient(5, 1, 1));
        C.due("faulty text", -2, Checks.lay(x, "f="));
        C.due("changes nothing", 3, x.told(7));
        C.due("recipe stays", 2, x.thing(5, 3));
    }

    private static void ranks() {
        ThingMaker x = new ThingMaker();
        String letters = "abcdefghij";
        for (int k = 1; k <= 8; k++) {
            C.due("rank " + k, k, Checks.lay(x, letters.charAt(k) + "=" + letters.charAt(k - 1)));
        }
        C.due("a rank of 9", -2, Checks.lay(x, "j=i"));
        C.due("no fault by that", -9, x.fault(0));
        C.due("greatest rank", 8, x.told(4));
        C.due("a rank of 9 below others", -2, Checks.lay(x, "a=k"));
        C.due("nothing changed", 0, x.thing(0, 1));
        C.due("eight changes", 8, x.told(7));
        C.due("another way to 8", 8, Checks.lay(x, "j=k+h"));
        C.due("shorter", 1, Checks.lay(x, "e=k"));
        C.due("the rank of i follows", 5, x.thing(8, 1));
        C.due("the rank of j follows", 5, x.thing(9, 1));
        C.due("greatest rank follows", 5, x.told(4));
        C.due("then a can be made", 1, Checks.lay(x, "a=l"));
        C.due("the rank of d follows", 4, x.thing(3, 1));
        C.due("but i is as before", 5, x.thing(8, 1));
        ThingMaker y = new ThingMaker();
        for (int k = 8; k >= 1; k--) {
            C.due("laid from above " + k, 1, Checks.lay(y, letters.charAt(k) + "=" + letters.charAt(k - 1)));
        }
        C.due("rank of the last", 8, y.thing(8, 1));
        C.due("one more from above", -2, Checks.lay(y, "a=k"));
        ThingMaker z = new ThingMaker();
        for (int k = 7; k >= 0; k--) {
            String recipe = letters.charAt(k) + "=" + letters.charAt(k + 1);
            C.due("downwards " + recipe, 8 - k, Checks.lay(z, recipe));
        }
        C.due("one more downwards", -2, Checks.lay(z, "t=a"));
    }

    private static void rings() {
        ThingMaker x = new ThingMaker();
        C.due("of itself", -2, Checks.lay(x, "a=a"));
        C.due("of itself and another", -2, Checks.lay(x, "a=b+a"));
        C.due("b of a", 1, Checks.lay(x, "b=a"));
        C.due("a of b", -2, Checks.lay(x, "a=b"));
        C.due("c of b", 2, Checks.lay(x, "c=b"));
        C.due("a of c", -2, Checks.lay(x, "a=d+c"));
        C.due("no fault", -9, x.fault(0));
        C.due("d replaced by c", 1, x.allow(3, 2));
        C.due("a of d: a substitute of d needs a", -2, Checks.lay(x, "a=d"));
        C.due("d of a: d itself is not needed by c", 1, Checks.lay(x, "d=a"));
        C.due("e of d: c counts, and d", 3, Checks.lay(x, "e=d"));
        C.due("substitutes of substitutes do not come in", 1, x.allow(10, 11));
        C.due("l replaced by m", 1, x.allow(11, 12));
        C.due("n of k", 1, Checks.lay(x, "n=k"));
        C.due("m of n", 2, Checks.lay(x, "m=n"));
        C.due("n needs no m", 1, x.thing(13, 1));
    }

    private static void forget() {
        ThingMaker x = Checks.with("d2=3a+b", "f20=d+2c");
        for (int t : NO_THINGS) {
            C.due("forget(" + t + ")", -1, x.forget(t));
        }
        C.due("forget a gathered thing", -2, x.forget(0));
        C.due("no change yet", 2, x.told(7));
        C.due("forget d", 2, x.forget(3));
        C.due("a change", 3, x.told(7));
        C.due("rank of d", 0, x.thing(3, 1));
        C.due("rank of f", 1, x.thing(5, 1));
        C.due("yield of d", -9, x.thing(3, 2));
        C.due("ingredients of d", -9, x.thing(3, 3));
        C.due("ingredient of d", -9, x.ingredient(3, 0, 0));
        C.due("d again", -2, x.forget(3));
        C.due("forget f", 20, x.forget(5));
        C.due("no recipes", 0, x.told(0));
        C.due("d is gathered", 4, x.gather(3, 4, 3));
        x.undo();
        x.undo();
        C.due("d is back", 2, x.thing(3, 2));
        C.due("rank of f is back", 2, x.thing(5, 1));
    }

    private static void allow() {
        ThingMaker x = new ThingMaker();
        for (int t : NO_THINGS) {
            C.due("allow(" + t + ", 0)", -1, x.allow(t, 0));
            C.due("allow(0, " + t + ")", -1, x.allow(0, t));
        }
        C.due("of itself", -1, x.allow(4, 4));
        C.due("no change", 0, x.told(7));
        C.due("first", 1, x.allow(0, 5));
        C.due("twice", -2, x.allow(0, 5));
        C.due("the other way round", 1, x.allow(5, 0));
        C.due("second", 2, x.allow(0, 4));
        C.due("third", 3, x.allow(0, 19));
        C.due("one that is there, ahead of full", -2, x.allow(0, 4));
        C.due("fourth", -3, x.allow(0, 6));
        C.due("of itself, ahead of full", -1, x.allow(0, 0));
        C.due("four changes", 4, x.told(7));
        C.due("order", 5, x.substitute(0, 0));
        C.due("order", 4, x.substitute(0, 1));
        C.due("order", 19, x.substitute(0, 2));
        C.due("count", 3, x.thing(0, 5));
        C.due("neighbours have none", 0, x.thing(1, 5));
        x.undo();
        C.due("undone", 2, x.thing(0, 5));
        C.due("undone", -9, x.substitute(0, 2));
        C.due("another third", 3, x.allow(0, 6));
    }

    private static void allowAndRanks() {
        ThingMaker x = Checks.with("b=a", "c=b", "k=l", "m=k+o");
        C.due("a replaced by c", -2, x.allow(0, 2));
        C.due("a replaced by b", -2, x.allow(0, 1));
        C.due("b replaced by c", -2, x.allow(1, 2));
        C.due("c replaced by a", 1, x.allow(2, 0));
        C.due("no change by those", 5, x.told(7));
        C.due("l replaced by c", 1, x.allow(11, 2));
        C.due("rank of k", 3, x.thing(10, 1));
        C.due("rank of m", 4, x.thing(12, 1));
        C.due("rank of l", 0, x.thing(11, 1));
        C.due("a replaced by m: needs a", -2, x.allow(0, 12));
        C.due("n replaced by m: not needed yet", 1, x.allow(13, 12));
        C.due("c then of n", -2, Checks.lay(x, "c=n"));
        ThingMaker y = Checks.with("b=a", "c=b", "d=c", "e=d", "f=e", "g=f", "h=g", "i=h", "k=l");
        C.due("a rank of 9 by a substitute", -2, y.allow(11, 8));
        C.due("rank stays", 1, y.thing(10, 1));
        C.due("a rank of 8 by a substitute", 1, y.allow(11, 7));
        C.due("rank 8", 8, y.thing(10, 1));
        C.due("second", 2, y.allow(11, 12));
        C.due("third", 3, y.allow(11, 13));
        C.due("full, though ranks would be wrong too", -3, y.allow(11, 8));
    }

    private static void forbid() {
        ThingMaker x = Checks.with("b=a", "c=b", "k=l");
        x.allow(11, 2);
        x.allow(11, 5);
        x.allow(11, 7);
        for (int t : NO_THINGS) {
            C.due("forbid(" + t + ", 0)", -1, x.forbid(t, 0));
            C.due("forbid(11, " + t + ")", -1, x.forbid(11, t));
        }
        C.due("place 3", -1, x.forbid(11, 3));
        C.due("place 0 of none", -1, x.forbid(10, 0));
        C.due("no change", 6, x.told(7));
        C.due("rank with the substitute", 3, x.thing(10, 1));
        C.due("middle one", 5, x.forbid(11, 1));
        C.due("a change", 7, x.told(7));
        C.due("the last one moved up", 7, x.substitute(11, 1));
        C.due("none behind", -9, x.substitute(11, 2));
        C.due("first one", 2, x.forbid(11, 0));
        C.due("rank without it", 1, x.thing(10, 1));
        C.due("moved up", 7, x.substitute(11, 0));
        C.due("place 1 is gone", -1, x.forbid(11, 1));
        C.due("last one", 7, x.forbid(11, 0));
        C.due("none left", 0, x.thing(11, 5));
        C.due("none left", -1, x.forbid(11, 0));
        x.undo();
        x.undo();
        C.due("back again", 2, x.substitute(11, 0));
        C.due("rank back again", 3, x.thing(10, 1));
    }

    private static void vessel() {
        ThingMaker x = new ThingMaker();
        for (int t : NO_THINGS) {
            C.due("vessel(" + t + ", 0)", -1, x.vessel(t, 0));
            if (t != -9) {
                C.due("vessel(0, " + t + ")", -1, x.vessel(0, t));
            }
        }
        C.due("vessel of itself", -1, x.vessel(3, 3));
        C.due("NONE for no thing", -1, x.vessel(20, -9));
        C.due("no change", 0, x.told(7));
        C.due("nothing taken away", -9, x.vessel(0, -9));
        C.due("though a change", 1, x.told(7));
        C.due("a vessel", -9, x.vessel(1, 0));
        C.due("told", 0, x.thing(1, 4));
        C.due("thing 0 as a vessel for more", -9, x.vessel(2, 0));
        C.due("another one in its place", 0, x.vessel(1, 5));
        C.due("told", 5, x.thing(1, 4));
        C.due("a thing with a vessel as a vessel", -2, x.vessel(6, 1));
        C.due("a vessel for a vessel", -2, x.vessel(5, 7));
        C.due("a vessel for a vessel, another", -2, x.vessel(0, 7));
        C.due("each other's", -2, x.vessel(5, 1));
        C.due("of itself, ahead of that", -1, x.vessel(1, 1));
        C.due("no such vessel, ahead of that", -1, x.vessel(5, 20));
        C.due("taking from a vessel is no fault", -9, x.vessel(5, -9));
        C.due("five changes", 5, x.told(7));
        C.due("0 is the vessel of 2", -2, x.vessel(0, 8));
        C.due("taken away", 5, x.vessel(1, -9));
        C.due("none", -9, x.thing(1, 4));
        C.due("5 can have one now", -9, x.vessel(5, 7));
        C.due("1 can be one now", -9, x.vessel(6, 1));
        C.due("0 is still one", -2, x.vessel(0, 7));
        C.due("the same again", 1, x.vessel(6, 1));
        x.undo();
        x.undo();
        C.due("undone", -9, x.thing(6, 4));
        ThingMaker y = new ThingMaker();
        C.due("thing 0 has a vessel", -9, y.vessel(0, 4));
        C.due("so 4 can have none", -2, y.vessel(4, 5));
        C.due("and 0 can be none", -2, y.vessel(5, 0));
    }

    private static void ingredient() {
        ThingMaker x = Checks.with("d2=3a+b", "t=20s+19r+18q+17p+16o");
        for (int t : NO_THINGS) {
            C.due("ingredient(" + t + ", 0, 0)", -1, x.ingredient(t, 0, 0));
            C.due("ingredient(3, 0, " + t + ")", -1, x.ingredient(3, 0, t));
        }
        C.due("k -1", -1, x.ingredient(3, -1, 0));
        C.due("k min", -1, x.ingredient(3, Integer.MIN_VALUE, 1));
        C.due("what 2", -1, x.ingredient(3, 0, 2));
        C.due("what 2 where there is none", -1, x.ingredient(3, 9, 2));
        C.due("what -1 of a gathered thing", -1, x.ingredient(0, 0, -1));
        C.due("k 2", -9, x.ingredient(3, 2, 0));
        C.due("k max", -9, x.ingredient(3, Integer.MAX_VALUE, 1));
        C.due("of a gathered thing", -9, x.ingredient(0, 0, 1));
        for (int k = 0; k < 5; k++) {
            C.due("thing " + k, 18 - k, x.ingredient(19, k, 0));
            C.due("amount " + k, 20 - k, x.ingredient(19, k, 1));
        }
        C.due("k 5", -9, x.ingredient(19, 5, 0));
        C.due("no change", 2, x.told(7));
    }

    private static void substitute() {
        ThingMaker x = new ThingMaker();
        x.allow(19, 2);
        x.allow(19, 1);
        x.allow(0, 3);
        for (int t : NO_THINGS) {
            C.due("substitute(" + t + ", 0)", -1, x.substitute(t, 0));
        }
        C.due("k -1", -1, x.substitute(19, -1));
        C.due("k min", -1, x.substitute(0, Integer.MIN_VALUE));
        C.due("k 0", 2, x.substitute(19, 0));
        C.due("k 1", 1, x.substitute(19, 1));
        C.due("k 2", -9, x.substitute(19, 2));
        C.due("k 3", -9, x.substitute(19, 3));
        C.due("k max", -9, x.substitute(19, Integer.MAX_VALUE));
        C.due("of 0", 3, x.substitute(0, 0));
        C.due("of 0, k 1", -9, x.substitute(0, 1));
        C.due("of 1, none", -9, x.substitute(1, 0));
    }

    private static void isNeeded() {
        ThingMaker x = Checks.with("d=a+b", "f=d+2c", "k=l", "p=f");
        x.allow(2, 10);
        x.allow(10, 13);
        x.allow(5, 14);
        for (int t : NO_THINGS) {
            C.due("isNeeded(" + t + ", 0)", -1, x.isNeeded(t, 0));
            C.due("isNeeded(0, " + t + ")", -1, x.isNeeded(0, t));
        }
        // For each thing the things that are needed for it: d and f by recipes, k in place of c, o in place of f.
        String[] needs = new String[20];
        java.util.Arrays.fill(needs, "");
        needs[3] = "ab";
        needs[5] = "dabckl";
        needs[10] = "l";
        needs[15] = "fodabckl";
        for (int other = 0; other < 20; other++) {
            for (int t = 0; t < 20; t++) {
                int due = needs[other].indexOf('a' + t) >= 0 ? 1 : 0;
                C.due("isNeeded(" + t + ", " + other + ")", due, x.isNeeded(t, other));
            }
        }
        x.forbid(2, 0);
        C.due("l is not needed for f without k", 0, x.isNeeded(11, 5));
        ThingMaker z = Checks.with("a=b", "c=a");
        C.due("by way of a", 1, z.isNeeded(1, 2));
        ThingMaker y = Checks.with("b=a", "c=b", "d=c", "e=d", "f=e", "g=f", "h=g", "i=h");
        C.due("a long way", 1, y.isNeeded(0, 8));
        C.due("a long way back", 0, y.isNeeded(8, 0));
    }
}
