import java.lang.reflect.Constructor;
import java.lang.reflect.Field;
import java.lang.reflect.Method;
import java.lang.reflect.Modifier;
import java.util.Map;
import java.util.TreeMap;
import java.util.TreeSet;

/** 'The public face': the constants, the constructor and the methods of the document, and no others. */
public final class FaceTest {
    /** Each method and how many ints it takes; each answers an int. */
    private static final Map<String, Integer> METHODS = new TreeMap<>(Map.ofEntries(Map.entry("act", 4),
        Map.entry("wipe", 1), Map.entry("boot", 1), Map.entry("tick", 1), Map.entry("kill", 2), Map.entry("entry", 1),
        Map.entry("told", 2), Map.entry("register", 2), Map.entry("action", 2), Map.entry("child", 2),
        Map.entry("members", 1), Map.entry("log", 2), Map.entry("count", 1)));

    public static void main(String[] args) {
        constants();
        theClass();
        methods();
        fieldsAndClassesInside();
        noObjectKnowsAnother();
        Check.finish();
    }

    private static void constants() {
        Check.due("face: NONE", ProcessTable.NONE, -1);
        Check.due("face: UNKNOWN", ProcessTable.UNKNOWN, -1001);
        Check.due("face: OUTSIDE", ProcessTable.OUTSIDE, -1002);
        Check.due("face: STATE", ProcessTable.STATE, -1003);
        Check.due("face: FULL", ProcessTable.FULL, -1004);
    }

    private static void yes(String what, boolean holds) {
        Check.due(what, holds ? 1 : 0, 1);
    }

    private static void theClass() {
        int modifiers = ProcessTable.class.getModifiers();
        yes("face: public and final", Modifier.isPublic(modifiers) && Modifier.isFinal(modifiers));
        Constructor<?>[] made = ProcessTable.class.getDeclaredConstructors();
        Check.due("face: one constructor", made.length, 1);
        Check.due("face: it takes nothing", made[0].getParameterCount(), 0);
        yes("face: it is public", Modifier.isPublic(made[0].getModifiers()));
    }

    private static void methods() {
        Map<String, Integer> found = new TreeMap<>();
        for (Method method : ProcessTable.class.getDeclaredMethods()) {
            boolean isPrivate = Modifier.isPrivate(method.getModifiers());
            if (Modifier.isPublic(method.getModifiers())) {
                found.put(method.getName(), method.getParameterCount());
                yes("face: " + method.getName() + " is an object's", !Modifier.isStatic(method.getModifiers()));
                yes("face: " + method.getName() + " answers an int", method.getReturnType() == int.class);
                for (Class<?> taken : method.getParameterTypes()) {
                    yes("face: " + method.getName() + " takes ints", taken == int.class);
                }
            } else if (!method.isSynthetic()) {
                yes("face: " + method.getName() + " is private", isPrivate);
                yes("face: " + method.getName() + " bears no public name", !METHODS.containsKey(method.getName()));
            }
        }
        Check.same("face: the methods", found.toString(), METHODS.toString());
    }

    private static void fieldsAndClassesInside() {
        TreeSet<String> found = new TreeSet<>();
        for (Field field : ProcessTable.class.getDeclaredFields()) {
            int modifiers = field.getModifiers();
            if (Modifier.isPublic(modifiers)) {
                found.add(field.getName());
                yes("face: " + field.getName() + " is a constant", Modifier.isStatic(modifiers)
                    && Modifier.isFinal(modifiers) && field.getType() == int.class);
            } else {
                yes("face: " + field.getName() + " is private", Modifier.isPrivate(modifiers));
                yes("face: " + field.getName() + " is no static state",
                    !Modifier.isStatic(modifiers) || Modifier.isFinal(modifiers));
            }
        }
        Check.same("face: the constants", found.toString(), "[FULL, NONE, OUTSIDE, STATE, UNKNOWN]");
        for (Class<?> inside : ProcessTable.class.getDeclaredClasses()) {
            yes("face: " + inside.getSimpleName() + " is static", Modifier.isStatic(inside.getModifiers()));
            yes("face: " + inside.getSimpleName() + " is not public", !Modifier.isPublic(inside.getModifiers())
                && !Modifier.isProtected(inside.getModifiers()));
        }
    }

    private static void noObjectKnowsAnother() {
        ProcessTable one = Check.booted(Check.SET, 0, 5, Check.TELL, 0, 0);
        ProcessTable other = new ProcessTable();
        one.tick(2);
        Check.due("1: no process of another object", other.entry(0), 0);
        Check.due("1: no log of another object", other.log(0, 0), Check.NONE);
        Check.due("1: no NOW of another object", other.count(3), 0);
        Check.due("1: no acts of another object", other.wipe(0), 0);
    }
}
