import java.lang.reflect.Constructor;
import java.lang.reflect.Field;
import java.lang.reflect.Method;
import java.lang.reflect.Modifier;
import java.util.Map;
import java.util.TreeMap;
import java.util.TreeSet;

/** The face: the constants, the constructor and the methods of the document, and nothing beside them. */
public final class FaceTest {
    private static final String[] CALLS = {"say/1", "wipe/0", "fault/0", "version/0", "word/1", "written/3", "comes/2",
        "tells/1", "shows/1", "page/2", "held/3", "stale/1", "blame/2", "order/1", "cover/1", "apart/0", "slip/2",
        "noticed/2", "unshown/2", "notice/1", "mend/2", "instead/2", "image/1", "restore/1", "told/1"};

    private static final Due due = new Due();

    public static void main(String[] args) throws Exception {
        due.is("the class is public and final", BookShows.class.getModifiers() & (Modifier.PUBLIC | Modifier.FINAL),
            Modifier.PUBLIC | Modifier.FINAL);
        constants();
        calls();
        constructor();
        classesInside();
        due.end();
    }

    private static void constants() throws Exception {
        Map<String, Integer> want = new TreeMap<>(Map.of("NONE", -6, "UNKNOWN", -1, "OUTSIDE", -2, "STATE", -3, "FULL", -4, "NO", -5));
        for (Field field : BookShows.class.getDeclaredFields()) {
            if (Modifier.isPrivate(field.getModifiers())) {
                due.is("a static field is final: " + field, Modifier.isStatic(field.getModifiers()) && !Modifier.isFinal(field.getModifiers()) ? 0 : 1, 1);
                continue;
            }
            Integer value = want.remove(field.getName());
            due.is("a constant: " + field, field.getModifiers(), Modifier.PUBLIC | Modifier.STATIC | Modifier.FINAL);
            due.is("its value: " + field, field.getInt(null), value == null ? -99 : value);
        }
        due.is("constants that are missing: " + want, want.size(), 0);
    }

    private static void calls() {
        TreeSet<String> want = new TreeSet<>(java.util.List.of(CALLS));
        TreeSet<String> names = new TreeSet<>();
        for (String call : CALLS) {
            names.add(call.substring(0, call.indexOf('/')));
        }
        for (Method method : BookShows.class.getDeclaredMethods()) {
            if (Modifier.isPrivate(method.getModifiers())) {
                due.is("a private method with a public name: " + method, names.contains(method.getName()) ? 1 : 0, 0);
                continue;
            }
            due.is("a call: " + method, want.remove(method.getName() + "/" + method.getParameterCount()) ? 1 : 0, 1);
            due.is("public alone: " + method, method.getModifiers(), Modifier.PUBLIC);
            due.is("it answers an int: " + method, method.getReturnType() == int.class ? 1 : 0, 1);
            for (Class<?> type : method.getParameterTypes()) {
                due.is("it takes ints: " + method, type == int.class ? 1 : 0, 1);
            }
        }
        due.is("calls that are missing: " + want, want.size(), 0);
    }

    private static void constructor() {
        Constructor<?>[] all = BookShows.class.getDeclaredConstructors();
        due.is("constructors", all.length, 1);
        due.is("it takes nothing", all[0].getParameterCount(), 0);
        due.is("it is public", all[0].getModifiers(), Modifier.PUBLIC);
    }

    private static void classesInside() {
        Class<?>[] inside = BookShows.class.getDeclaredClasses();
        due.is("at most twelve classes", inside.length <= 11 ? 1 : 0, 1);
        for (Class<?> one : inside) {
            int modifiers = one.getModifiers();
            due.is("static, not public: " + one, Modifier.isStatic(modifiers) && !Modifier.isPublic(modifiers)
                && !Modifier.isProtected(modifiers) ? 1 : 0, 1);
            due.is("some twenty fields: " + one, one.getDeclaredFields().length <= 20 ? 1 : 0, 1);
        }
    }
}
