/** Compares answers with those that are due, and ends a test's run. */
final class Checks {
    /** Calls on a new object. */
    interface Calls {
        void on(ThingMaker x);
    }

    private final String title;
    private String sentence = "";
    private int sentences = 0;
    private int made = 0;
    private int wrong = 0;

    Checks(String title) {
        this.title = title;
    }

    /** From here on the checks are of this sentence of the document; answers a new object for them. */
    ThingMaker sentence(String words) {
        sentence = " [" + words + "]";
        sentences++;
        return new ThingMaker();
    }

    void due(String call, long want, long got) {
        made++;
        if (got != want) {
            tellWrong(call + " answered " + got + ", due is " + want);
        }
    }

    void dueFloat(String call, float want, float got) {
        made++;
        if (Float.compare(got, want) != 0) {
            tellWrong(call + " answered " + got + ", due is " + want);
        }
    }

    void dueTrue(String what, boolean holds) {
        made++;
        if (!holds) {
            tellWrong(what + " does not hold");
        }
    }

    private void tellWrong(String line) {
        wrong++;
        if (wrong <= 40) {
            System.out.println(title + sentence + ": " + line);
        }
    }

    void end() {
        String told = sentences > 0 ? sentences + " sentences, " : "";
        System.out.println(title + ": " + told + made + " checks, " + wrong + " wrong");
        if (wrong != 0) {
            System.exit(1);
        }
    }

    /** The number of the thing that a text tells by this letter. */
    static int id(char letter) {
        return letter - 'a';
    }

    /** Makes this the text. */
    static void type(ThingMaker x, String text) {
        x.wipe();
        for (int i = 0; i < text.length(); i++) {
            x.write(text.charAt(i));
        }
    }

    /** Makes this the text and lays the recipe that it tells. */
    static int lay(ThingMaker x, String text) {
        type(x, text);
        return x.recipe();
    }

    /** A new object in which these recipes are laid. */
    static ThingMaker with(String... recipes) {
        ThingMaker x = new ThingMaker();
        for (String recipe : recipes) {
            if (lay(x, recipe) < 1) {
                throw new IllegalStateException("not a recipe: " + recipe);
            }
        }
        return x;
    }

    /** Brings things until so many of a thing are there. */
    static void fill(ThingMaker x, int thing, int amount) {
        int missing = amount - x.thing(thing, 0);
        for (; missing > 9999; missing -= 9999) {
            x.bring(thing, 9999);
        }
        x.bring(thing, missing);
    }

    /**
     * All that an object tells about its present state, but for the text, the fault and what can be undone.
     * It takes some 250 calls, and an object is used for 512 at most: so each object tells one state.
     */
    static String stateOf(ThingMaker x) {
        StringBuilder all = new StringBuilder();
        for (int what = 0; what <= 5; what++) {
            all.append(x.told(what)).append(' ');
        }
        for (int t = 0; t < 20; t++) {
            int[] row = new int[11];
            all.append("\n").append(t).append(':');
            for (int what = 0; what <= 10; what++) {
                row[what] = x.thing(t, what);
                all.append(' ').append(row[what]);
            }
            for (int k = 0; k < row[3]; k++) {
                all.append(' ').append(x.ingredient(t, k, 0)).append('*').append(x.ingredient(t, k, 1));
            }
            for (int k = 0; k < row[5]; k++) {
                all.append(' ').append(x.substitute(t, k));
            }
        }
        return all.append(' ').append(x.share()).toString();
    }

    /** The state of a new object after these calls. */
    static String stateAfter(Calls... calls) {
        ThingMaker x = new ThingMaker();
        for (Calls some : calls) {
            some.on(x);
        }
        return stateOf(x);
    }

    /** Checks that these calls and those leave the same state, and the same behind it: history, images, text, fault. */
    void same(String what, Calls some, Calls others) {
        for (int undone = 0; undone <= 8; undone++) {
            int times = undone;
            sameBy(what + ", after " + undone + " undos", some, others, x -> undo(x, times));
        }
        sameBy(what + ", back(0)", some, others, x -> x.back(0));
        sameBy(what + ", back(1)", some, others, x -> x.back(1));
        sameBy(what + ", the text", some, others, x -> x.recipe());
    }

    private void sameBy(String what, Calls some, Calls others, Calls last) {
        dueText(what, lookAfter(some, last), lookAfter(others, last));
    }

    static void undo(ThingMaker x, int times) {
        for (int k = 0; k < times; k++) {
            x.undo();
        }
    }

    private static String lookAfter(Calls calls, Calls last) {
        ThingMaker x = new ThingMaker();
        calls.on(x);
        last.on(x);
        return stateOf(x) + "\ntext " + x.told(6) + " changes " + x.told(7) + " fault " + x.fault(0) + " " + x.fault(1);
    }

    void dueText(String what, String want, String got) {
        made++;
        if (!want.equals(got)) {
            tellWrong(what + "\n-- got\n" + got + "\n-- due\n" + want);
        }
    }
}
