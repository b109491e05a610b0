import java.lang.reflect.Constructor;
import java.lang.reflect.Field;
import java.lang.reflect.Method;
import java.lang.reflect.Modifier;
import java.util.Set;
import java.util.TreeSet;

/** The public face is the document's, and nothing beside it can be reached from outside. */
public final class FaceTest {
    private static final Set<String> METHODS = Set.of(
            "told(int)", "floor(int,int)", "hundredths(int,int)", "would(int,int)", "cycle(int)",
            "days(int)", "pour()", "strike(int)", "back(int)", "slow(int,int)", "bound(int,int)",
            "clear()", "drift(int)", "undo(int)", "write(int,int)", "tear()", "seed(int)",
            "keep(int)", "goBack(int)");

    public static void main(String[] args) {
        Due due = new Due();
        constants(due);
        methods(due);
        due.end();
    }

    private static void constants(Due due) {
        due.is("NONE", StrikePlan.NONE, -1);
        due.is("UNKNOWN", StrikePlan.UNKNOWN, -1000000001);
        due.is("OUTSIDE", StrikePlan.OUTSIDE, -1000000002);
        due.is("NOT", StrikePlan.NOT, -1000000003);
        due.is("FULL", StrikePlan.FULL, -1000000004);
        Set<String> seen = new TreeSet<>();
        for (Field field : StrikePlan.class.getDeclaredFields()) {
            if (!Modifier.isPrivate(field.getModifiers())) {
                seen.add(field.getName());
            }
        }
        due.same("fields to be seen", seen.toString(),
                new TreeSet<>(Set.of("NONE", "UNKNOWN", "OUTSIDE", "NOT", "FULL")).toString());
    }

    private static void methods(Due due) {
        Set<String> open = new TreeSet<>();
        Set<String> openNames = new TreeSet<>();
        Set<String> hiddenNames = new TreeSet<>();
        for (Method method : StrikePlan.class.getDeclaredMethods()) {
            if (Modifier.isPrivate(method.getModifiers())) {
                hiddenNames.add(method.getName());
                continue;
            }
            due.holds(method + " answers an int", method.getReturnType() == int.class);
            due.holds(method + " is public", Modifier.isPublic(method.getModifiers()));
            open.add(signature(method));
            openNames.add(method.getName());
        }
        due.same("methods", open.toString(), new TreeSet<>(METHODS).toString());
        hiddenNames.retainAll(openNames);
        due.same("private methods with a public one's name", hiddenNames.toString(), "[]");
        due.holds("final", Modifier.isFinal(StrikePlan.class.getModifiers()));
        Constructor<?>[] made = StrikePlan.class.getDeclaredConstructors();
        due.is("constructors", made.length, 1);
        due.is("parameters of the constructor", made[0].getParameterCount(), 0);
        due.holds("the constructor is public", Modifier.isPublic(made[0].getModifiers()));
    }

    private static String signature(Method method) {
        StringBuilder text = new StringBuilder(method.getName()).append('(');
        String between = "";
        for (Class<?> type : method.getParameterTypes()) {
            text.append(between).append(type.getName());
            between = ",";
        }
        return text.append(')').toString();
    }
}
