import java.lang.reflect.Constructor;
import java.lang.reflect.Field;
import java.lang.reflect.Method;
import java.lang.reflect.Modifier;
import java.util.Arrays;
import java.util.TreeSet;

/** The public face, and promise 1: what a new object tells. */
public final class FaceTest {
    private static final String[] METHODS = {
        "int recipe()", "int forget(int)", "int allow(int,int)", "int forbid(int,int)", "int vessel(int,int)",
        "int bring(int,int)", "int wish(int,int)", "int make(int,int)", "int undo()",
        "int write(int)", "int wipe()", "int fault(int)",
        "int told(int)", "int thing(int,int)", "int ingredient(int,int,int)", "int substitute(int,int)",
        "int isNeeded(int,int)", "float share()",
        "int gather(int,int,int)", "int canHave(int)", "int bestGift(int,int)",
        "int keep(int)", "int back(int)"};

    private static final Checks C = new Checks("FaceTest");

    public static void main(String[] args) {
        face();
        newObject();
        C.end();
    }

    private static void face() {
        C.due("BAD", -1, ThingMaker.BAD);
        C.due("STATE", -2, ThingMaker.STATE);
        C.due("FULL", -3, ThingMaker.FULL);
        C.due("NONE", -9, ThingMaker.NONE);
        Class<?> c = ThingMaker.class;
        C.dueTrue("public final", Modifier.isPublic(c.getModifiers()) && Modifier.isFinal(c.getModifiers()));
        TreeSet<String> found = new TreeSet<>();
        TreeSet<String> hidden = new TreeSet<>();
        for (Method m : c.getDeclaredMethods()) {
            if (Modifier.isPrivate(m.getModifiers())) {
                hidden.add(m.getName());
                continue;
            }
            StringBuilder line = new StringBuilder(m.getReturnType() + " " + m.getName() + "(");
            for (Class<?> p : m.getParameterTypes()) {
                line.append(line.charAt(line.length() - 1) == '(' ? "" : ",").append(p);
            }
            found.add(line.append(')').toString());
            C.dueTrue("public " + m, m.getModifiers() == Modifier.PUBLIC);
        }
        C.dueTrue("methods as in the document: " + found, found.equals(new TreeSet<>(Arrays.asList(METHODS))));
        for (String line : METHODS) {
            String name = line.substring(line.indexOf(' ') + 1, line.indexOf('('));
            C.dueTrue("no private method " + name, !hidden.contains(name));
        }
        TreeSet<String> fields = new TreeSet<>();
        for (Field f : c.getDeclaredFields()) {
            if (!Modifier.isPrivate(f.getModifiers())) {
                fields.add(f.getName());
            }
        }
        C.dueTrue("fields as in the document", fields.equals(new TreeSet<>(Arrays.asList("BAD", "STATE", "FULL", "NONE"))));
        TreeSet<String> constructors = new TreeSet<>();
        for (Constructor<?> made : c.getDeclaredConstructors()) {
            if (!Modifier.isPrivate(made.getModifiers())) {
                constructors.add(made.toString());
            }
        }
        C.dueText("constructors", "[public ThingMaker()]", constructors.toString());
        for (Class<?> inside : c.getDeclaredClasses()) {
            int m = inside.getModifiers();
            C.dueTrue(inside + " is hidden", !Modifier.isPublic(m) && !Modifier.isProtected(m));
        }
    }

    private static void newObject() {
        ThingMaker x = new ThingMaker();
        for (int what = 0; what <= 7; what++) {
            C.due("told(" + what + ")", 0, x.told(what));
        }
        int[] due = {0, 0, -9, -9, -9, 0, 0, 0, 0, 0, 0};
        for (int t = 0; t < 20; t++) {
            for (int what = 0; what < due.length; what++) {
                C.due("thing(" + t + ", " + what + ")", due[what], x.thing(t, what));
            }
            C.due("ingredient", -9, x.ingredient(t, 0, 0));
            C.due("substitute", -9, x.substitute(t, 0));
            C.due("canHave", 0, x.canHave(t));
        }
        C.dueFloat("share()", 0.0f, x.share());
        C.due("fault(0)", -9, x.fault(0));
        C.due("fault(1)", -9, x.fault(1));
        C.due("undo()", -2, x.undo());
        C.due("back(0)", -2, x.back(0));
        C.due("back(1)", -2, x.back(1));
        C.due("wipe()", 0, x.wipe());
        C.due("undo() after these", -2, x.undo());
        ThingMaker needless = new ThingMaker();
        for (int t = 0; t < 20; t++) {
            for (int other = 0; other < 20; other++) {
                C.due("isNeeded", 0, needless.isNeeded(t, other));
            }
        }
        ThingMaker other = new ThingMaker();
        x.bring(0, 5);
        C.due("another object keeps its own store", 0, other.thing(0, 0));
    }
}
