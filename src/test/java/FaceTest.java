import java.lang.reflect.Constructor;
import java.lang.reflect.Field;
import java.lang.reflect.Method;
import java.lang.reflect.Modifier;
import java.util.Set;
import java.util.TreeSet;

/** The face: just the document's constants, constructor and methods, and nothing else that is not private. */
public final class FaceTest {
    private static final Set<String> METHODS = Set.of(
        "int open(int,int,int,int,int)", "int outcome(int)", "int cancel(int)", "int giveUp(int)", "int close(int)",
        "int doom(int,boolean)", "int move(int,int,int)", "int read(int,int)", "int value()", "int write(int,int,int)",
        "int lock(int,int,int,boolean)", "int unlock(int,int,int)", "int sync()", "int crash()", "int find(int,int)",
        "int node(int,int)", "int handle(int,int)", "int count(int)");
    private static final Set<String> CONSTANTS = Set.of(
        "REFUSED=-1", "FULL=-2", "NOWHERE=-3", "TAKEN=-4", "KIND=-5", "SHARING=-6", "DOOM=-7", "LOCKED=-8", "LOST=-9",
        "WAITING=0", "MAKE=64", "FRESH=128", "FOLDER=256", "REMOVES=512");

    public static void main(String[] args) throws Exception {
        Due due = new Due();
        due.is("the class is public and final", ShareServer.class.getModifiers(), Modifier.PUBLIC | Modifier.FINAL);
        due.is("the methods are the document's: " + methods(), methods().equals(METHODS) ? 1 : 0, 1);
        due.is("the constants are the document's: " + constants(), constants().equals(CONSTANTS) ? 1 : 0, 1);
        constructor(due);
        nestedClasses(due);
        due.end();
    }

    private static Set<String> methods() {
        Set<String> found = new TreeSet<>();
        Set<String> publicNames = new TreeSet<>();
        for (String method : METHODS) {
            publicNames.add(method.substring(4, method.indexOf('(')));
        }
        for (Method method : ShareServer.class.getDeclaredMethods()) {
            boolean hidden = Modifier.isPrivate(method.getModifiers());
            if (!hidden || publicNames.contains(method.getName())) {
                found.add((hidden ? "private " : "") + text(method));
            }
            if (!hidden && method.getModifiers() != Modifier.PUBLIC) {
                found.add("not only public: " + text(method));
            }
        }
        return found;
    }

    private static String text(Method method) {
        StringBuilder types = new StringBuilder();
        for (Class<?> type : method.getParameterTypes()) {
            types.append(types.length() == 0 ? "" : ",").append(type);
        }
        return method.getReturnType() + " " + method.getName() + "(" + types + ")";
    }

    private static Set<String> constants() throws IllegalAccessException {
        Set<String> found = new TreeSet<>();
        for (Field field : ShareServer.class.getDeclaredFields()) {
            int modifiers = field.getModifiers();
            if (modifiers == (Modifier.PUBLIC | Modifier.STATIC | Modifier.FINAL)) {
                found.add(field.getName() + "=" + field.getInt(null));
            } else if (!Modifier.isPrivate(modifiers)) {
                found.add("not private: " + field.getName());
            } else if (Modifier.isStatic(modifiers) && !Modifier.isFinal(modifiers)) {
                found.add("static state: " + field.getName());
            }
        }
        return found;
    }

    private static void constructor(Due due) {
        Constructor<?>[] found = ShareServer.class.getDeclaredConstructors();
        due.is("constructors", found.length, 1);
        due.is("the constructor is public", found[0].getModifiers(), Modifier.PUBLIC);
        due.is("the constructor's parameters", found[0].getParameterCount(), 0);
    }

    private static void nestedClasses(Due due) {
        Class<?>[] found = ShareServer.class.getDeclaredClasses();
        due.is("at most twelve classes inside", found.length <= 12 ? 1 : 0, 1);
        for (Class<?> nested : found) {
            int modifiers = nested.getModifiers();
            due.is(nested + " is static", Modifier.isStatic(modifiers) ? 1 : 0, 1);
            due.is(nested + " is not public", Modifier.isPublic(modifiers) || Modifier.isProtected(modifiers) ? 1 : 0, 0);
        }
    }
}
