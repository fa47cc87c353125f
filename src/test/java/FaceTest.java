import java.lang.reflect.Constructor;
import java.lang.reflect.Field;
import java.lang.reflect.Method;
import java.lang.reflect.Modifier;
import java.util.Set;
import java.util.TreeSet;

/** The public face: just the document's constants, constructor and methods. */
public final class FaceTest {
    private static final String METHODS = "[boolean play(int,int,int), int advance(int), int define(int), "
            + "int differ(int,int), int due(int,int), int onsets(), int part(int,int), "
            + "int query(int,int,int,int), int tick(), int type(long,int), int unit()]";

    public static void main(String[] args) {
        Check.test("the constants", FaceTest::constants);
        Check.test("just the document's members", FaceTest::members);
        Check.end();
    }

    private static void constants() {
        Check.due("BAD", CyclePatterns.BAD, -1);
        Check.due("MANY", CyclePatterns.MANY, -2);
        Check.due("FULL", CyclePatterns.FULL, -3);
    }

    private static void members() {
        Class<?> face = CyclePatterns.class;
        Check.due("public and final", Modifier.isPublic(face.getModifiers()) && Modifier.isFinal(face.getModifiers()), true);
        Check.due("fields", fields(face), "[BAD, FULL, MANY]");
        Check.due("methods", methods(face), METHODS);
        Constructor<?>[] constructors = face.getDeclaredConstructors();
        Check.due("constructors", constructors.length, 1);
        Check.due("its parameters", constructors[0].getParameterCount(), 0);
        Check.due("it is public", Modifier.isPublic(constructors[0].getModifiers()), true);
    }

    private static String fields(Class<?> face) {
        Set<String> names = new TreeSet<>();
        for (Field field : face.getDeclaredFields()) {
            if (!Modifier.isPrivate(field.getModifiers())) {
                names.add(field.getName());
            }
        }
        return names.toString();
    }

    private static String methods(Class<?> face) {
        Set<String> signatures = new TreeSet<>();
        for (Method method : face.getDeclaredMethods()) {
            if (!Modifier.isPrivate(method.getModifiers())) {
                StringBuilder types = new StringBuilder();
                for (Class<?> type : method.getParameterTypes()) {
                    types.append(types.length() == 0 ? "" : ",").append(type.getName());
                }
                signatures.add(method.getReturnType().getName() + " " + method.getName() + "(" + types + ")");
            }
        }
        return signatures.toString();
    }
}
