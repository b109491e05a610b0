import java.lang.reflect.InvocationTargetException;
import java.lang.reflect.Method;
import java.lang.reflect.Modifier;
import java.util.TreeMap;
import java.util.TreeSet;

/**
 * Each sentence of the document that names a boundary case has a case here. A case is a static method
 * that takes a Due; its name says where the document has the sentence (terms, section1, section2,
 * promise01 to promise20), what it is about, and the boundary.
 */
public final class BoundariesTest {
    private static final Class<?>[] CASES = {
        TermsBoundaries.class, TowerBoundaries.class, DeedsBoundaries.class, BookAndImagesBoundaries.class};

    public static void main(String[] args) throws IllegalAccessException, InvocationTargetException {
        Due due = new Due();
        TreeSet<String> places = new TreeSet<>();
        for (Class<?> cases : CASES) {
            TreeMap<String, Method> byName = casesOf(cases);
            for (String name : byName.keySet()) {
                int ahead = due.checked();
                due.begin(name);
                byName.get(name).invoke(null, due);
                due.holds("something is checked", due.checked() > ahead);
                places.add(name.substring(0, name.indexOf('_')));
            }
        }
        due.begin("the document");
        for (int promise = 1; promise <= 20; promise++) {
            String place = String.format("promise%02d", promise);
            due.holds(place + " has a case", places.contains(place));
        }
        due.end();
    }

    private static TreeMap<String, Method> casesOf(Class<?> cases) {
        TreeMap<String, Method> byName = new TreeMap<>();
        for (Method method : cases.getDeclaredMethods()) {
            if (!Modifier.isPrivate(method.getModifiers()) && method.getName().indexOf('_') > 0) {
                byName.put(method.getName(), method);
            }
        }
        return byName;
    }
}
