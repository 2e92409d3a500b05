/** The sentences of the section THE TEXT that name a case, a test for each. */
public final class EdgeFaultsTest {
    private static final int A = 0, B = 1, C = 2, D = 3;
    private static final int BAD = -1, STATE = -2, FULL = -3, NONE = -9;
    private static final String SIXTY_BUT_ONE = " ".repeat(59);
    private static final Checks OF = new Checks("EdgeFaultsTest");

    public static void main(String[] args) {
        atMostSixtyBytes();
        recipeOfSixtyBytes();
        codes();
        emptyAtFirst();
        yieldNotTold();
        amountNotTold();
        blanksEverywhere();
        blanksWithinANumber();
        numbersOfOneOrTwoDigits();
        zeroAhead();
        wrongByteForTheThing();
        wrongByteBehindTheThing();
        wrongByteBehindTheYield();
        wrongByteForAnIngredient();
        wrongByteBehindAnAmount();
        wrongByteBehindAnIngredient();
        numbersOutOfRange();
        numberFoundAheadOfTheNextByte();
        numberFoundAtTheEnd();
        thirdDigit();
        ingredientTwice();
        sixthIngredient();
        endOfTheText();
        placeOfTheEnd();
        endAheadOfOlderBytes();
        firstFaultCounts();
        OF.end();
    }

    private static void good(String text) {
        ThingMaker x = new ThingMaker();
        OF.due("'" + text + "'", 1, Checks.lay(x, text));
        OF.due("fault of '" + text + "'", NONE, x.fault(0));
    }

    private static void faulty(String text, int kind, int place) {
        ThingMaker x = new ThingMaker();
        OF.due("'" + text + "'", STATE, Checks.lay(x, text));
        OF.due("kind of '" + text + "'", kind, x.fault(0));
        OF.due("place of '" + text + "'", place, x.fault(1));
        OF.due("recipes by '" + text + "'", 0, x.told(0));
    }

    /** The fault is at the one byte that is put in the place of the sign ?. */
    private static void faultyBytes(String text, String bytes) {
        for (int k = 0; k < bytes.length(); k++) {
            faulty(text.replace('?', bytes.charAt(k)), 1, text.indexOf('?'));
        }
    }

    // ---- the bytes

    private static void atMostSixtyBytes() {
        ThingMaker x = OF.sentence("The text has at most 60 bytes");
        Checks.type(x, SIXTY_BUT_ONE);
        OF.due("the 60th", 60, x.write('a'));
        OF.due("the 61st", FULL, x.write('a'));
        OF.due("60", 60, x.told(6));
        OF.due("60", 60, x.wipe());
    }

    private static void recipeOfSixtyBytes() {
        ThingMaker x = OF.sentence("The text has at most 60 bytes");
        String text = "d2 = 3a + 4b + 5c + 6e + 7f" + " ".repeat(32) + ";";
        OF.due("60 bytes are read, and the last one is wrong", STATE, Checks.lay(x, text));
        OF.due("kind", 1, x.fault(0));
        OF.due("place", 59, x.fault(1));
        OF.due("60 bytes, and the last one is the letter", 1, Checks.lay(x, "d=" + " ".repeat(57) + "a"));
        faulty("d=" + " ".repeat(58), 4, 60);
    }

    private static void codes() {
        ThingMaker x = OF.sentence("with codes from 32 to 126");
        OF.due("31", BAD, x.write(31));
        OF.due("127", BAD, x.write(127));
        OF.due("no bytes", 0, x.told(6));
        OF.due("32", 1, x.write(32));
        OF.due("126", 2, x.write(126));
        for (int code = 33; code < 126; code++) {
            x.wipe();
            OF.due("code " + code, 1, x.write(code));
        }
    }

    private static void emptyAtFirst() {
        ThingMaker x = OF.sentence("and is empty at first");
        OF.due("bytes", 0, x.told(6));
        OF.due("wiped", 0, x.wipe());
        OF.due("read", STATE, x.recipe());
        OF.due("kind", 4, x.fault(0));
        OF.due("place", 0, x.fault(1));
    }

    // ---- what can stand there

    private static void yieldNotTold() {
        ThingMaker x = OF.sentence("the yield; 1 if it is not told");
        Checks.lay(x, "d9=a");
        OF.due("told", 9, x.thing(D, 2));
        Checks.lay(x, "d=7a");
        OF.due("not told", 1, x.thing(D, 2));
        Checks.lay(x, " d = 20 a ");
        OF.due("not told, with blanks", 1, x.thing(D, 2));
    }

    private static void amountNotTold() {
        ThingMaker x = OF.sentence("the amount; 1 if it is not told");
        Checks.lay(x, "d7=a+8b+c");
        OF.due("first", 1, x.ingredient(D, 0, 1));
        OF.due("second", 8, x.ingredient(D, 1, 1));
        OF.due("last, behind one that is told", 1, x.ingredient(D, 2, 1));
    }

    private static void blanksEverywhere() {
        ThingMaker x = OF.sentence("Blanks can stand everywhere but within a number.");
        String packed = "d12=3a+20b+c";
        String[] pieces = {"d", "12", "=", "3", "a", "+", "20", "b", "+", "c"};
        OF.due("no blank", 1, Checks.lay(x, packed));
        for (int place = 0; place <= pieces.length; place++) {
            StringBuilder text = new StringBuilder();
            for (int k = 0; k < pieces.length; k++) {
                text.append(k == place ? "  " : "").append(pieces[k]);
            }
            good(text.append(place == pieces.length ? "  " : "").toString());
        }
        Checks.lay(x, "  d  12  =  3  a  +  20  b  +  c  ");
        OF.due("yield", 12, x.thing(D, 2));
        OF.due("first", A, x.ingredient(D, 0, 0));
        OF.due("first", 3, x.ingredient(D, 0, 1));
        OF.due("second", B, x.ingredient(D, 1, 0));
        OF.due("second", 20, x.ingredient(D, 1, 1));
        OF.due("third", C, x.ingredient(D, 2, 0));
        OF.due("third", 1, x.ingredient(D, 2, 1));
    }

    private static void blanksWithinANumber() {
        OF.sentence("Blanks can stand everywhere but within a number.");
        faulty("d1 2=3a", 1, 3);
        faulty("d12=2 0b", 1, 6);
        faulty("d1  2=3a", 1, 4);
        faulty("d=3a+1 0b", 1, 7);
    }

    private static void numbersOfOneOrTwoDigits() {
        OF.sentence("Numbers have 1 or 2 digits, also with a 0 ahead.");
        ThingMaker x = new ThingMaker();
        for (int n = 1; n <= 20; n++) {
            OF.due("number " + n, 1, Checks.lay(x, "d" + n + "=" + n + "a"));
            OF.due("yield " + n, n, x.thing(D, 2));
            OF.due("amount " + n, n, x.ingredient(D, 0, 1));
        }
        faulty("d=012a", 1, 4);
        faulty("d012=a", 1, 3);
    }

    private static void zeroAhead() {
        ThingMaker x = OF.sentence("Numbers have 1 or 2 digits, also with a 0 ahead.");
        for (int n = 1; n <= 9; n++) {
            OF.due("number 0" + n, 1, Checks.lay(x, "d0" + n + "=0" + n + "a"));
            OF.due("yield 0" + n, n, x.thing(D, 2));
            OF.due("amount 0" + n, n, x.ingredient(D, 0, 1));
        }
        faulty("d00=a", 2, 1);
        faulty("d=00a", 2, 2);
    }

    // ---- kind 1

    private static void wrongByteForTheThing() {
        OF.sentence("1 a byte that cannot stand at its place");
        faultyBytes("?2=a", "`uzAT@09=+!~");
        faultyBytes(" ?2=a", "`u1=+");
        good("a2=b");
        good("t2=b");
    }

    private static void wrongByteBehindTheThing() {
        OF.sentence("1 a byte that cannot stand at its place");
        faultyBytes("d?2=a", "adtu+/:<>;");
        faultyBytes("d ?=a", "at+-");
    }

    private static void wrongByteBehindTheYield() {
        OF.sentence("1 a byte that cannot stand at its place");
        faultyBytes("d2?=a", "adtu+/:-");
        faultyBytes("d12 ?a", "a+1");
        faultyBytes("d2 ?=a", "19a");
    }

    private static void wrongByteForAnIngredient() {
        OF.sentence("1 a byte that cannot stand at its place");
        faultyBytes("d=?a", "`uzA@=+-/:~");
        faultyBytes("d= ?", "u+=");
        faultyBytes("d=a+?", "`uT=+!");
        faultyBytes("d=a+b+c+e+?f", "u=+");
    }

    private static void wrongByteBehindAnAmount() {
        OF.sentence("1 a byte that cannot stand at its place");
        faultyBytes("d=2?a", "`uzA=+-/:");
        faultyBytes("d=20 ?a", "u+=5");
        faultyBytes("d=a+3?b", "u+=");
    }

    private static void wrongByteBehindAnIngredient() {
        OF.sentence("1 a byte that cannot stand at its place");
        faultyBytes("d=a?b", "bu29=-,*~");
        faultyBytes("d=a ?", "b2=.");
        faultyBytes("d=a+b?", "c1=.");
        faultyBytes("d=a+b+c+e+f?", "g1=.");
    }

    // ---- kind 2

    private static void numbersOutOfRange() {
        OF.sentence("2 a number that is not from 1 to 20 (the place of its first digit");
        faulty("d0=a", 2, 1);
        faulty("d21=a", 2, 1);
        faulty("d99=a", 2, 1);
        faulty("d  21=a", 2, 3);
        faulty("d=0a", 2, 2);
        faulty("d=21a", 2, 2);
        faulty("d=a+00b", 2, 4);
        faulty("d=a+ 30b", 2, 5);
        good("d1=1a+20b");
        good("d20=01a");
    }

    private static void numberFoundAheadOfTheNextByte() {
        OF.sentence("found at the byte behind it, ahead of what that byte is");
        String bytes = " =+auz?~";
        for (int k = 0; k < bytes.length(); k++) {
            faulty("d21" + bytes.charAt(k), 2, 1);
            faulty("d=0" + bytes.charAt(k), 2, 2);
            faulty("d=a+99" + bytes.charAt(k), 2, 4);
        }
        faulty("d=a+0a", 2, 4);
        faulty("d=a+b+c+e+f+0g", 2, 12);
        faulty("d=21 5a", 2, 2);
    }

    private static void numberFoundAtTheEnd() {
        OF.sentence("found at the byte behind it, ahead of what that byte is, or at the end");
        faulty("d0", 2, 1);
        faulty("d21", 2, 1);
        faulty("d=0", 2, 2);
        faulty("d=21", 2, 2);
        faulty("d=a+99", 2, 4);
        faulty("d20", 4, 3);
        faulty("d=20", 4, 4);
    }

    private static void thirdDigit() {
        OF.sentence("a third digit is of the kind 1, whatever the two before it are");
        String[] two = {"00", "01", "10", "20", "21", "99"};
        for (String digits : two) {
            for (char third = '0'; third <= '9'; third++) {
                faulty("d" + digits + third + "=a", 1, 3);
                faulty("d=" + digits + third + "a", 1, 4);
                faulty("d=b+" + digits + third, 1, 6);
            }
        }
        faulty("d1234=a", 1, 3);
    }

    // ---- kind 3

    private static void ingredientTwice() {
        OF.sentence("3 an ingredient that stands twice, or a sixth one (the place of its letter)");
        faulty("d=a+a", 3, 4);
        faulty("d=a+b+a", 3, 6);
        faulty("d=a+b+c+e+a", 3, 10);
        faulty("d=a+20 a", 3, 7);
        faulty("d=a+5a+u", 3, 5);
        faulty("d=d+d", 3, 4);
        good("d=a+b+c+e+f");
    }

    private static void sixthIngredient() {
        OF.sentence("3 an ingredient that stands twice, or a sixth one (the place of its letter)");
        faulty("d=a+b+c+e+f+g", 3, 12);
        faulty("d=a+b+c+e+f+ 2 g", 3, 15);
        faulty("d=a+b+c+e+f+a", 3, 12);
        faulty("d=a+b+c+e+f+g?", 3, 12);
        faulty("d=a+b+c+e+f+", 4, 12);
        faulty("d=a+b+c+e+f+2", 4, 13);
        faulty("d=a+b+c+e+f+u", 1, 12);
    }

    // ---- kind 4

    private static void endOfTheText() {
        OF.sentence("4 the end of the text where something is missing (the length of the text)");
        faulty("", 4, 0);
        faulty("d", 4, 1);
        faulty("d2", 4, 2);
        faulty("d=", 4, 2);
        faulty("d=2", 4, 3);
        faulty("d=a+", 4, 4);
        faulty("d=a+2", 4, 5);
        good("d=a");
    }

    private static void placeOfTheEnd() {
        OF.sentence("4 the end of the text where something is missing (the length of the text)");
        faulty("   ", 4, 3);
        faulty("d  ", 4, 3);
        faulty("d2   ", 4, 5);
        faulty("d=   ", 4, 5);
        faulty("d=2  ", 4, 5);
        faulty("d=a+  ", 4, 6);
        faulty(SIXTY_BUT_ONE + "d", 4, 60);
    }

    private static void endAheadOfOlderBytes() {
        ThingMaker x = OF.sentence("4 the end of the text where something is missing (the length of the text)");
        String longer = "d11=11a+11b";
        for (int length = 0; length < longer.length(); length++) {
            Checks.lay(x, longer);
            OF.due("'" + longer.substring(0, length) + "'", length == 7 ? 1 : STATE, Checks.lay(x, longer.substring(0, length)));
            if (length != 7) {
                OF.due("kind at " + length, 4, x.fault(0));
                OF.due("place at " + length, length, x.fault(1));
            }
        }
        Checks.lay(x, "d=99a");
        Checks.lay(x, "d=9");
        OF.due("a digit that was wiped", 4, x.fault(0));
        OF.due("its place", 3, x.fault(1));
    }

    private static void firstFaultCounts() {
        OF.sentence("The text is read from left to right, and the first fault counts.");
        faulty("u0=a+a", 1, 0);
        faulty("d0=u+a", 2, 1);
        faulty("d0=a+a", 2, 1);
        faulty("d=a+a+0b", 3, 4);
        faulty("d=0a+u", 2, 2);
        faulty("d=a+u+0b+", 1, 4);
        faulty("d=a+a+", 3, 4);
        faulty("dd=0a", 1, 1);
        faulty("d=a+?+a", 1, 4);
    }
}
