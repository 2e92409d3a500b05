/** The text as a recipe (part of promise 2), and promises 11 write, 12 wipe, 13 fault. */
public final class TextTest {
    private static final Checks C = new Checks("TextTest");

    public static void main(String[] args) {
        writeAndWipe();
        recipesThatAreRead();
        wrongBytes();
        wrongNumbers();
        wrongIngredients();
        earlyEnds();
        wipedBytes();
        everyByteEverywhere();
        rememberedFault();
        C.end();
    }

    private static void writeAndWipe() {
        ThingMaker x = new ThingMaker();
        C.due("write(31)", -1, x.write(31));
        C.due("write(127)", -1, x.write(127));
        C.due("write(-1)", -1, x.write(-1));
        C.due("write(min)", -1, x.write(Integer.MIN_VALUE));
        C.due("write(max)", -1, x.write(Integer.MAX_VALUE));
        C.due("write(32 + 256)", -1, x.write(32 + 256));
        C.due("write(32)", 1, x.write(32));
        C.due("write(126)", 2, x.write(126));
        for (int n = 3; n <= 60; n++) {
            C.due("write to " + n, n, x.write(97));
        }
        C.due("write beyond 60", -3, x.write(97));
        C.due("a wrong byte beyond 60", -1, x.write(31));
        C.due("told(6)", 60, x.told(6));
        C.due("no change", 0, x.told(7));
        C.due("wipe()", 60, x.wipe());
        C.due("wipe() again", 0, x.wipe());
        C.due("told(6) wiped", 0, x.told(6));
        C.due("write after wipe", 1, x.write(98));
        C.due("no change by wipe", 0, x.told(7));
    }

    /** Lays the recipe on a new object and compares thing, yield and pairs of ingredient and amount. */
    private static void read(String text, int thing, int yield, int... pairs) {
        ThingMaker x = new ThingMaker();
        C.due("recipe of '" + text + "'", 1, Checks.lay(x, text));
        C.due("text stays: " + text, text.length(), x.told(6));
        C.due("made by " + text, 1 << thing, x.told(5));
        C.due("yield of " + text, yield, x.thing(thing, 2));
        C.due("count of " + text, pairs.length / 2, x.thing(thing, 3));
        for (int k = 0; k < 6; k++) {
            boolean there = 2 * k < pairs.length;
            C.due(text + " ingredient " + k, there ? pairs[2 * k] : -9, x.ingredient(thing, k, 0));
            C.due(text + " amount " + k, there ? pairs[2 * k + 1] : -9, x.ingredient(thing, k, 1));
        }
        C.due("no fault by " + text, -9, x.fault(0));
    }

    private static void recipesThatAreRead() {
        read("a=b", 0, 1, 1, 1);
        read("t20=20a", 19, 20, 0, 20);
        read("d2=3a+b", 3, 2, 0, 3, 1, 1);
        read("b01=09c", 1, 1, 2, 9);
        read(" c 1 0 ".replace("1 0", "10") + "=  5 d  + e   ", 2, 10, 3, 5, 4, 1);
        read("a=b+c+d+e+f", 0, 1, 1, 1, 2, 1, 3, 1, 4, 1, 5, 1);
        read("a=20b+19c+18d+17e+16t", 0, 1, 1, 20, 2, 19, 3, 18, 4, 17, 19, 16);
        read("          k          7        =          a         +      2j", 10, 7, 0, 1, 9, 2);
    }

    private static void faulty(String text, int kind, int place) {
        ThingMaker x = new ThingMaker();
        C.due("recipe of '" + text + "'", -2, Checks.lay(x, text));
        C.due("kind of '" + text + "'", kind, x.fault(0));
        C.due("place of '" + text + "'", place, x.fault(1));
        C.due("nothing is made by " + text, 0, x.told(0));
        C.due("no change by " + text, 0, x.told(7));
        C.due("text stays: " + text, text.length(), x.told(6));
    }

    private static void wrongBytes() {
        faulty("=", 1, 0);
        faulty("1a=b", 1, 0);
        faulty("u=b", 1, 0);
        faulty("A=b", 1, 0);
        faulty("`=b", 1, 0);
        faulty("ab", 1, 1);
        faulty("a+b", 1, 1);
        faulty("a = u", 1, 4);
        faulty("a=b=c", 1, 3);
        faulty("a=b c", 1, 4);
        faulty("a=b2", 1, 3);
        faulty("a=+b", 1, 2);
        faulty("a==b", 1, 2);
        faulty("a=b++c", 1, 4);
        faulty("a=2+b", 1, 3);
        faulty("a=2 2b", 1, 4);
        faulty("a2 2=b", 1, 3);
        faulty("a2b", 1, 2);
        faulty("a2+b", 1, 2);
        faulty("a=b+c;", 1, 5);
        faulty("a=b-c", 1, 3);
        faulty("a/=b", 1, 1);
        faulty("a:=b", 1, 1);
    }

    private static void wrongNumbers() {
        faulty("a0=b", 2, 1);
        faulty("a00=b", 2, 1);
        faulty("a21=b", 2, 1);
        faulty("a99=b", 2, 1);
        faulty("a=0b", 2, 2);
        faulty("a=21b", 2, 2);
        faulty("a=b+ 30c", 2, 5);
        faulty("a30", 2, 1);
        faulty("a0", 2, 1);
        faulty("a=0", 2, 2);
        faulty("a=99", 2, 2);
        faulty("a 30 ", 2, 2);
        faulty("a30?", 2, 1);
        faulty("a30u", 2, 1);
        faulty("a=0+", 2, 2);
        faulty("a=21 5b", 2, 2);
        faulty("a=21b+u", 2, 2);
        faulty("a=b+c+d+e+f+21g", 2, 12);
        faulty("a300=b", 1, 3);
        faulty("a123=b", 1, 3);
        faulty("a001=b", 1, 3);
        faulty("a=100b", 1, 4);
        faulty("a=999", 1, 4);
        faulty("a0012345", 1, 3);
    }

    private static void wrongIngredients() {
        faulty("a=b+b", 3, 4);
        faulty("a=b+c+2 b", 3, 8);
        faulty("a=b+b+u", 3, 4);
        faulty("a=b+c+d+e+f+g", 3, 12);
        faulty("a=b+c+d+e+f+b", 3, 12);
        faulty("a=b+c+d+e+f+ 3 g", 3, 15);
        faulty("a=b+c+d+e+f+u", 1, 12);
        faulty("a=b+c+d+e+e+g", 3, 10);
    }

    private static void earlyEnds() {
        faulty("", 4, 0);
        faulty("   ", 4, 3);
        faulty("a", 4, 1);
        faulty("a ", 4, 2);
        faulty("a3", 4, 2);
        faulty("a20 ", 4, 4);
        faulty("a=", 4, 2);
        faulty("a= ", 4, 3);
        faulty("a=3", 4, 3);
        faulty("a=b+", 4, 4);
        faulty("a=b+  ", 4, 6);
        faulty("a=b+c+d+e+f+", 4, 12);
        faulty("a=b+c+d+e+f+3", 4, 13);
        faulty("a=b+1", 4, 5);
    }

    /** What stood in a longer text before plays no part. */
    private static void wipedBytes() {
        ThingMaker x = new ThingMaker();
        Checks.lay(x, "a=99b+99c");
        Checks.lay(x, "a=9");
        C.due("kind", 4, x.fault(0));
        C.due("place", 3, x.fault(1));
        Checks.lay(x, "a");
        C.due("kind", 4, x.fault(0));
        C.due("place", 1, x.fault(1));
        C.due("shorter", 1, Checks.lay(x, "a=9b"));
        C.due("one ingredient", 1, x.thing(0, 3));
        C.due("its amount", 9, x.ingredient(0, 0, 1));
    }

    /** Puts each byte at each place of a recipe; the grammar below tells what is due there. */
    private static void everyByteEverywhere() {
        String text = "d2=3a+b";
        for (int place = 0; place <= text.length(); place++) {
            for (int code = 32; code <= 126; code++) {
                String changed = text.substring(0, place) + (char) code
                        + (place < text.length() ? text.substring(place + 1) : "");
                ThingMaker x = new ThingMaker();
                boolean good = changed.matches(" *[a-t] *[0-9]{0,2} *= *([0-9]{0,2} *[a-t])( *\\+ *[0-9]{0,2} *[a-t])* *");
                int answer = Checks.lay(x, changed);
                boolean fine = answer == 1 || (good && answer == -2);
                C.dueTrue("'" + changed + "' answered " + answer, good ? fine : answer == -2 && x.fault(0) > 0);
            }
        }
    }

    private static void rememberedFault() {
        ThingMaker x = new ThingMaker();
        C.due("fault(-1)", -1, x.fault(-1));
        C.due("fault(2)", -1, x.fault(2));
        C.due("recipe of itself", -2, Checks.lay(x, "a=a"));
        C.due("a ring is no fault", -9, x.fault(0));
        C.due("a ring is no fault", -9, x.fault(1));
        Checks.lay(x, "a=b+21c");
        C.due("kind", 2, x.fault(0));
        C.due("place", 4, x.fault(1));
        C.due("fault(2) with a fault", -1, x.fault(2));
        C.due("fault(-9) with a fault", -1, x.fault(-9));
        C.due("a good recipe", 1, Checks.lay(x, "a=b"));
        C.due("kind stays", 2, x.fault(0));
        C.due("place stays", 4, x.fault(1));
        Checks.lay(x, "b=a");
        C.due("kind stays after a ring", 2, x.fault(0));
        x.undo();
        x.keep(0);
        x.back(0);
        x.wipe();
        C.due("kind stays after undo and back", 2, x.fault(0));
        C.due("place stays after undo and back", 4, x.fault(1));
        Checks.lay(x, "q=q+q");
        C.due("the later fault", 3, x.fault(0));
        C.due("the later place", 4, x.fault(1));
        x.undo();
        C.due("undo keeps the later fault", 3, x.fault(0));
    }
}
