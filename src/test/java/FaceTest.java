import java.lang.reflect.Constructor;
import java.lang.reflect.Field;
import java.lang.reflect.Method;
import java.lang.reflect.Modifier;
import java.util.Arrays;
import java.util.Set;
import java.util.TreeSet;

/** The class shows the document's face and nothing else. */
public final class FaceTest {
    private static final String INDEX = "IndexOutOfBoundsException";
    private static final String ARGUMENT = "IllegalArgumentException";
    private static final String STATE = "IllegalStateException";
    private static int wrong = 0;

    private static final String[] FACE = {
        "int wagon(int,int,int,int) " + ARGUMENT + " " + STATE,
        "int turntable(int,int) " + ARGUMENT + " " + STATE,
        "void setScore(int,int) " + ARGUMENT + " " + STATE,
        "int cue(int,int,int,int) " + INDEX + " " + ARGUMENT + " " + STATE,
        "int strikeOut(int) " + INDEX,
        "int setTempo(int) " + ARGUMENT,
        "void setRules(int,int) " + ARGUMENT,
        "boolean strike(int,boolean) " + ARGUMENT,
        "int substitute(int,int) " + ARGUMENT,
        "int bar()",
        "int end()",
        "int place(int,int) " + INDEX + " " + ARGUMENT,
        "int placeAtBar(int,int) " + INDEX + " " + ARGUMENT,
        "int meeting()",
        "int meeters()",
        "int worker(int) " + INDEX,
        "int takes(int) " + INDEX,
        "int clashes(int) " + ARGUMENT,
        "int overtime(int) " + ARGUMENT,
        "boolean isFine()",
        "int fastest()",
    };

    private static void due(String what, Object got, Object want) {
        if (!got.equals(want)) {
            wrong++;
            System.out.println(what + " is " + got + ", due is " + want);
        }
    }

    private static String told(Method method) {
        StringBuilder text = new StringBuilder(method.getReturnType() + " " + method.getName() + "(");
        Class<?>[] types = method.getParameterTypes();
        for (int i = 0; i < types.length; i++) {
            text.append(i == 0 ? "" : ",").append(types[i]);
        }
        text.append(")");
        for (Class<?> thrown : method.getExceptionTypes()) {
            text.append(" ").append(thrown.getSimpleName());
        }
        return text.toString();
    }

    private static void checkMethods() {
        Set<String> open = new TreeSet<>();
        Set<String> openNames = new TreeSet<>();
        for (Method method : OperaMachines.class.getDeclaredMethods()) {
            if (!Modifier.isPrivate(method.getModifiers())) {
                open.add(told(method));
                openNames.add(method.getName());
                due(method.getName() + "'s modifiers", Modifier.toString(method.getModifiers()), "public");
            }
        }
        due("the face", open, new TreeSet<>(Arrays.asList(FACE)));
        checkPrivateNames(OperaMachines.class, openNames);
        for (Class<?> inner : OperaMachines.class.getDeclaredClasses()) {
            due(inner + " is static", Modifier.isStatic(inner.getModifiers()), true);
            checkPrivateNames(inner, openNames);
        }
    }

    private static void checkPrivateNames(Class<?> type, Set<String> openNames) {
        for (Method method : type.getDeclaredMethods()) {
            boolean ofFace = Modifier.isPublic(method.getModifiers());
            due(type + "." + method.getName() + " bears a name of the face",
                    !ofFace && openNames.contains(method.getName()), false);
        }
    }

    private static void checkFieldsAndConstructors() {
        for (Field field : OperaMachines.class.getDeclaredFields()) {
            due(field + " is private", Modifier.isPrivate(field.getModifiers()), true);
        }
        Constructor<?>[] constructors = OperaMachines.class.getDeclaredConstructors();
        due("number of constructors", constructors.length, 1);
        due("the constructor", constructors[0].toString(), "public OperaMachines()");
        due("the class", Modifier.toString(OperaMachines.class.getModifiers()), "public final");
    }

    public static void main(String[] args) {
        checkMethods();
        checkFieldsAndConstructors();
        System.out.println("FaceTest: " + wrong + " wrong");
        if (wrong != 0) {
            System.exit(1);
        }
    }
}
