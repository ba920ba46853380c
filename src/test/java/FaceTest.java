import java.lang.reflect.Constructor;
import java.lang.reflect.Field;
import java.lang.reflect.Method;
import java.lang.reflect.Modifier;
import java.util.ArrayList;
import java.util.Collections;
import java.util.List;

/** The public face: the document's members with what they take, answer and throw, and no others. */
final class FaceTest {
    private static final String STATE = " throws java.lang.IllegalStateException";
    private static final String ARGUMENT = " throws java.lang.IllegalArgumentException";
    private static final String INDEX = " throws java.lang.IndexOutOfBoundsException";

    private static final List<String> FACE = List.of(
        "public int ScriptDesk.at(int,int)" + INDEX,
        "public int ScriptDesk.depth()",
        "public int ScriptDesk.end(int)" + ARGUMENT,
        "public int ScriptDesk.feed(int,int,int,int,int)" + STATE,
        "public int ScriptDesk.hash(int,int)" + ARGUMENT,
        "public int ScriptDesk.number(int)" + INDEX + ",java.lang.ArithmeticException",
        "public int ScriptDesk.run(int)" + ARGUMENT,
        "public int ScriptDesk.sigs(int)" + ARGUMENT,
        "public int ScriptDesk.size(int)" + INDEX);

    public static void main(String[] args) {
        theClass();
        theConstructor();
        theMethods();
        theFields();
        theClassesInside();
        Check.finish();
    }

    private static void theClass() {
        Check.about("public final class ScriptDesk");
        Check.same("modifiers", Modifier.toString(ScriptDesk.class.getModifiers()), "public final");
        Check.same("package", ScriptDesk.class.getPackageName(), "");
        Check.same("above it", ScriptDesk.class.getSuperclass(), Object.class);
        Check.same("interfaces", ScriptDesk.class.getInterfaces().length, 0);
    }

    private static void theConstructor() {
        Check.about("public ScriptDesk()");
        Constructor<?>[] constructors = ScriptDesk.class.getDeclaredConstructors();
        Check.same("constructors", constructors.length, 1);
        Check.same("the constructor", constructors[0].toString(), "public ScriptDesk()");
    }

    private static void theMethods() {
        Check.about("The public face");
        List<String> open = new ArrayList<>();
        for (Method method : ScriptDesk.class.getDeclaredMethods()) {
            if (Modifier.isPrivate(method.getModifiers())) {
                boolean shared = FACE.stream().anyMatch(line -> line.contains("." + method.getName() + "("));
                Check.same(method.getName() + " is private and has a public one's name", shared, false);
            } else {
                open.add(method.toString());
            }
        }
        Collections.sort(open);
        Check.same("methods", open, FACE);
    }

    private static void theFields() {
        Check.about("The public face has no fields");
        for (Field field : ScriptDesk.class.getDeclaredFields()) {
            Check.same(field.getName() + " is private", Modifier.isPrivate(field.getModifiers()), true);
        }
    }

    private static void theClassesInside() {
        Check.about("The public face has no classes");
        for (Class<?> inside : ScriptDesk.class.getDeclaredClasses()) {
            Check.same(inside.getName() + " is private", Modifier.isPrivate(inside.getModifiers()), true);
            Check.same(inside.getName() + " is static", Modifier.isStatic(inside.getModifiers()), true);
            for (Field field : inside.getDeclaredFields()) {
                boolean changes = Modifier.isStatic(field.getModifiers()) && !Modifier.isFinal(field.getModifiers());
                Check.same(field + " is state that objects share", changes, false);
            }
        }
    }
}
