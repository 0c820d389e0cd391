import java.lang.reflect.Constructor;
import java.lang.reflect.Field;
import java.lang.reflect.Method;
import java.lang.reflect.Modifier;
import java.util.Arrays;
import java.util.Set;
import java.util.TreeSet;

/** The class has the members of the document's public face and no others that can be seen. */
public final class FaceTest {
    private static final String[] METHODS = {
        "stage/4", "targets/3", "admit/4", "put/2", "prepare/2", "commit/2", "abort/1", "timer/3", "cancel/1",
        "close/1", "tick/1", "told/2", "queued/2", "worker/3", "done/1", "value/1", "events/0", "ended/0",
        "lost/0", "clock/0"
    };

    private static final Checks checks = new Checks();

    public static void main(String[] args) {
        constants();
        constructors();
        methods();
        nested();
        checks.end();
    }

    private static void constants() {
        checks.part("constants");
        checks.due("BAD", StageDesk.BAD, -1);
        checks.due("FULL", StageDesk.FULL, -2);
        checks.due("SHUT", StageDesk.SHUT, -3);
        checks.due("SLOW", StageDesk.SLOW, -4);
        Set<String> seen = new TreeSet<>();
        for (Field field : StageDesk.class.getDeclaredFields()) {
            if (!Modifier.isPrivate(field.getModifiers())) {
                seen.add(field.getName());
                checks.holds(field.getName() + " is a constant", field.getType() == int.class
                        && field.getModifiers() == (Modifier.PUBLIC | Modifier.STATIC | Modifier.FINAL));
            }
        }
        checks.holds("fields " + seen, seen.equals(Set.of("BAD", "FULL", "SHUT", "SLOW")));
    }

    private static void constructors() {
        checks.part("class");
        checks.holds("public and final", StageDesk.class.getModifiers() == (Modifier.PUBLIC | Modifier.FINAL));
        Constructor<?>[] all = StageDesk.class.getDeclaredConstructors();
        checks.due("constructors", all.length, 1);
        checks.holds("public, without parameters",
                Modifier.isPublic(all[0].getModifiers()) && all[0].getParameterCount() == 0);
    }

    private static void methods() {
        checks.part("methods");
        Set<String> seen = new TreeSet<>();
        Set<String> names = new TreeSet<>();
        Set<String> hidden = new TreeSet<>();
        for (Method method : StageDesk.class.getDeclaredMethods()) {
            if (Modifier.isPrivate(method.getModifiers())) {
                hidden.add(method.getName());
                continue;
            }
            seen.add(method.getName() + "/" + method.getParameterCount());
            names.add(method.getName());
            checks.holds(method + " is public and answers an int",
                    method.getModifiers() == Modifier.PUBLIC && method.getReturnType() == int.class);
            for (Class<?> type : method.getParameterTypes()) {
                checks.holds(method + " takes ints", type == int.class);
            }
        }
        checks.holds("methods " + seen, seen.equals(new TreeSet<>(Arrays.asList(METHODS))));
        hidden.retainAll(names);
        checks.holds("private methods with a public one's name " + hidden, hidden.isEmpty());
    }

    private static void nested() {
        checks.part("classes inside");
        for (Class<?> inside : StageDesk.class.getDeclaredClasses()) {
            int modifiers = inside.getModifiers();
            checks.holds(inside + " is static and not public", Modifier.isStatic(modifiers)
                    && !Modifier.isPublic(modifiers) && !Modifier.isProtected(modifiers));
        }
    }
}
