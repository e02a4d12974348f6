import java.lang.reflect.Constructor;
import java.lang.reflect.Field;
import java.lang.reflect.Method;
import java.lang.reflect.Modifier;
import java.util.Set;
import java.util.TreeSet;

/** The public face: no more and no less than the document has. */
public final class FaceTest {
    private static final String[] METHODS = {
        "type 1", "clear 0", "history 0", "revision 2", "line 3", "blocks 1", "passes 1", "rules 1", "undo 0",
        "gives 3", "begun 2", "age 2", "like 3", "carried 2", "kept 2", "common 2", "sees 4", "forget 0",
        "unseen 0", "keep 1", "back 1", "count 1"
    };

    public static void main(String[] args) {
        Check check = new Check("FaceTest");
        check.due("BAD", LineOrigins.BAD, -1);
        check.due("STATE", LineOrigins.STATE, -2);
        check.due("FULL", LineOrigins.FULL, -3);
        check.due("NONE", LineOrigins.NONE, -9);
        check.due("the class is public and final",
                Modifier.isPublic(LineOrigins.class.getModifiers())
                        && Modifier.isFinal(LineOrigins.class.getModifiers()));
        check.due("the methods are those of the document", methods(check).equals(Set.of(METHODS)));
        fields(check);
        constructors(check);
        check.end();
    }

    private static Set<String> methods(Check check) {
        Set<String> found = new TreeSet<>();
        for (Method method : LineOrigins.class.getDeclaredMethods()) {
            if (method.isSynthetic()) {
                continue;
            }
            boolean isPublic = Modifier.isPublic(method.getModifiers());
            check.due(method.getName() + " is public or private",
                    isPublic || Modifier.isPrivate(method.getModifiers()));
            if (isPublic) {
                found.add(method.getName() + " " + method.getParameterCount());
                check.due(method.getName() + " answers int", method.getReturnType() == int.class);
                check.due(method.getName() + " is not static", !Modifier.isStatic(method.getModifiers()));
            }
        }
        return found;
    }

    private static void fields(Check check) {
        Set<String> found = new TreeSet<>();
        for (Field field : LineOrigins.class.getDeclaredFields()) {
            int modifiers = field.getModifiers();
            check.due(field.getName() + " is public or private",
                    Modifier.isPublic(modifiers) || Modifier.isPrivate(modifiers));
            check.due(field.getName() + ", if static, is final",
                    !Modifier.isStatic(modifiers) || Modifier.isFinal(modifiers));
            if (Modifier.isPublic(modifiers)) {
                found.add(field.getName());
            }
        }
        check.due("the constants are those of the document", found.equals(Set.of("BAD", "STATE", "FULL", "NONE")));
    }

    private static void constructors(Check check) {
        Constructor<?>[] all = LineOrigins.class.getDeclaredConstructors();
        check.due("one constructor", all.length, 1);
        check.due("it is public, without parameters",
                Modifier.isPublic(all[0].getModifiers()) && all[0].getParameterCount() == 0);
    }
}
