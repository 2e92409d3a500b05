/** Compares answers with those that are due, and ends a test's run. */
final class Checks {
    private final String title;
    private int made = 0;
    private int wrong = 0;

    Checks(String title) {
        this.title = title;
    }

    void due(String call, long want, long got) {
        made++;
        if (got != want) {
            tellWrong(call + " answered " + got + ", due is " + want);
        }
    }

    void dueFloat(String call, float want, float got) {
        made++;
        if (Float.compare(got, want) != 0) {
            tellWrong(call + " answered " + got + ", due is " + want);
        }
    }

    void dueTrue(String what, boolean holds) {
        made++;
        if (!holds) {
            tellWrong(what + " does not hold");
        }
    }

    private void tellWrong(String line) {
        wrong++;
        if (wrong <= 40) {
            System.out.println(title + ": " + line);
        }
    }

    void end() {
        System.out.println(title + ": " + made + " checks, " + wrong + " wrong");
        if (wrong != 0) {
            System.exit(1);
        }
    }

    /** The number of the thing that a text tells by this letter. */
    static int id(char letter) {
        return letter - 'a';
    }

    /** Makes this the text. */
    static void type(ThingMaker x, String text) {
        x.wipe();
        for (int i = 0; i < text.length(); i++) {
            x.write(text.charAt(i));
        }
    }

    /** Makes this the text and lays the recipe that it tells. */
    static int lay(ThingMaker x, String text) {
        type(x, text);
        return x.recipe();
    }

    /** A new object in which these recipes are laid. */
    static ThingMaker with(String... recipes) {
        ThingMaker x = new ThingMaker();
        for (String recipe : recipes) {
            if (lay(x, recipe) < 1) {
                throw new IllegalStateException("not a recipe: " + recipe);
            }
        }
        return x;
    }

    /** All that an object tells about its present state, but for the text, the fault and what can be undone. */
    static String stateOf(ThingMaker x) {
        StringBuilder all = new StringBuilder();
        for (int what = 0; what <= 5; what++) {
            all.append(x.told(what)).append(' ');
        }
        for (int t = 0; t < 20; t++) {
            all.append("\n").append(t).append(':');
            for (int what = 0; what <= 10; what++) {
                all.append(' ').append(x.thing(t, what));
            }
            for (int k = 0; k < 5; k++) {
                all.append(' ').append(x.ingredient(t, k, 0)).append('*').append(x.ingredient(t, k, 1));
            }
            for (int k = 0; k < 3; k++) {
                all.append(' ').append(x.substitute(t, k));
            }
        }
        return all.append(x.share()).toString();
    }
}
