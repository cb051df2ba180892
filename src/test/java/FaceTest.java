import java.lang.reflect.Constructor;
import java.lang.reflect.Field;
import java.lang.reflect.Method;
import java.lang.reflect.Modifier;
import java.util.Arrays;
import java.util.TreeSet;

/** The class has the face of the document and no other (LANGUAGE.md, rules 1 and 5). */
public final class FaceTest {
    private static final Check check = new Check("FaceTest");

    private static final String I = "IndexOutOfBoundsException ";
    private static final String A = "IllegalArgumentException ";
    private static final String S = "IllegalStateException ";

    private static final String[] FACE = {
        "int addNetwork(int int ) " + A + S,
        "int addSubnet(int int int ) " + I + A + S,
        "int addHost(int int ) " + I + A + S,
        "int addPeering(int int ) " + I + A + S,
        "int addGroup() " + S,
        "int allow(int boolean int int int int ) " + I + A + S,
        "int clearGroup(int ) " + I,
        "boolean setGroup(int int boolean ) " + I,
        "int putRule(int int boolean boolean int int int int ) " + I + A + S,
        "int removeRule(int int ) " + I,
        "int setRoute(int int int int ) " + I + A + S,
        "int routeFor(int int ) " + I + A,
        "int ports(int int ) " + I + A,
        "int blockedBy(int int int ) " + I + A,
        "int blocks(int int int ) " + I + A,
        "int pairs(int ) " + A,
        "int reachedFrom(int ) " + I,
        "int idleRules(int ) " + I,
    };

    public static void main(String[] args) {
        int modifiers = CloudPaths.class.getModifiers();
        check.due("the class is public and final", Modifier.isPublic(modifiers) && Modifier.isFinal(modifiers), true);
        methods();
        fieldsAndConstructors();
        check.end();
    }

    private static void methods() {
        TreeSet<String> due = new TreeSet<>(Arrays.asList(FACE));
        TreeSet<String> names = new TreeSet<>();
        for (Method method : CloudPaths.class.getDeclaredMethods()) {
            if (!Modifier.isPrivate(method.getModifiers())) {
                String face = describe(method);
                check.due(face + " is in the face", due.remove(face), true);
                check.due(face + " is no other's name", names.add(method.getName()), true);
                check.due(face + " is public", Modifier.isPublic(method.getModifiers()), true);
            }
        }
        for (String missing : due) {
            check.due(missing + " is there", false, true);
        }
        for (Method method : CloudPaths.class.getDeclaredMethods()) {
            if (Modifier.isPrivate(method.getModifiers())) {
                check.due(method.getName() + " is a public name too", names.contains(method.getName()), false);
            }
        }
    }

    private static String describe(Method method) {
        StringBuilder text = new StringBuilder();
        text.append(method.getReturnType().getSimpleName()).append(' ').append(method.getName()).append('(');
        for (Class<?> type : method.getParameterTypes()) {
            text.append(type.getSimpleName()).append(' ');
        }
        text.append(") ");
        for (Class<?> type : method.getExceptionTypes()) {
            text.append(type.getSimpleName()).append(' ');
        }
        return text.toString();
    }

    private static void fieldsAndConstructors() {
        for (Field field : CloudPaths.class.getDeclaredFields()) {
            int modifiers = field.getModifiers();
            check.due(field.getName() + " is private", Modifier.isPrivate(modifiers), true);
            check.due(field.getName() + " is final", Modifier.isFinal(modifiers), true);
        }
        Constructor<?>[] constructors = CloudPaths.class.getDeclaredConstructors();
        check.due("constructors", constructors.length, 1);
        check.due("the constructor is public", Modifier.isPublic(constructors[0].getModifiers()), true);
        check.due("the constructor's parameters", constructors[0].getParameterCount(), 0);
        for (Class<?> inside : CloudPaths.class.getDeclaredClasses()) {
            check.due(inside.getSimpleName() + " is static", Modifier.isStatic(inside.getModifiers()), true);
            check.due(inside.getSimpleName() + " is public", Modifier.isPublic(inside.getModifiers()), false);
        }
    }
}
