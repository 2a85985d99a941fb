import java.lang.reflect.Constructor;
import java.lang.reflect.Executable;
import java.lang.reflect.Field;
import java.lang.reflect.Method;
import java.lang.reflect.Modifier;
import java.util.Set;
import java.util.TreeSet;

/** The document's public face, and the rules of LANGUAGE.md that can be seen from outside of the methods. */
public final class FaceTest {
    private static final Set<String> METHODS = Set.of(
        "int make(int, int, int)", "int array(int, int, boolean)",
        "boolean get(int, int, int)", "boolean put(int, int, int)",
        "long look(int, int)", "boolean set(int, int, int)",
        "boolean getItem(int, int, int)", "int putItem(int, int, int)",
        "long lookItem(int, int)", "int setItem(int, int, int)",
        "boolean copy(int, int)", "boolean drop(int)", "boolean same(int, int)",
        "int size(int, int)", "int told(int)", "boolean steady()");

    private static final Set<String> CONSTANTS = Set.of("int", "long", "boolean", "char", "class java.lang.String");
    private static final int MOST_CLASSES = 12;
    private static final int MOST_FIELDS = 20;
    private static final int MOST_PARAMETERS = 7;

    private FaceTest() {
    }

    public static void main(String[] args) throws ReflectiveOperationException {
        classIsPublicAndFinal();
        methodsAreThoseOfTheDocument();
        constructorIsThatOfTheDocument();
        constantIsThatOfTheDocument();
        nothingElseIsSeen();
        noPrivateMethodHasAPublicName();
        classesInsideAreStatic();
        staticFieldsAreConstants();
        countsAreSmall();
        Check.end();
    }

    private static Class<?>[] allClasses() {
        Class<?>[] inside = StepHeap.class.getDeclaredClasses();
        Class<?>[] all = new Class<?>[1 + inside.length];
        all[0] = StepHeap.class;
        System.arraycopy(inside, 0, all, 1, inside.length);
        return all;
    }

    private static String nameOf(Method method) {
        return method.getReturnType() + " " + method.getName() + parametersOf(method);
    }

    private static String parametersOf(Executable executable) {
        StringBuilder text = new StringBuilder("(");
        for (Class<?> type : executable.getParameterTypes()) {
            text.append(text.length() > 1 ? ", " : "").append(type);
        }
        return text.append(")").toString();
    }

    /** The public face: "public final class StepHeap"; rule 1: "public and final". It stands in no package. */
    private static void classIsPublicAndFinal() {
        int modifiers = StepHeap.class.getModifiers();
        Check.due("StepHeap is public", Modifier.isPublic(modifiers), true);
        Check.due("StepHeap is final", Modifier.isFinal(modifiers), true);
        Check.due("StepHeap has no package", StepHeap.class.getPackageName().isEmpty(), true);
    }

    /** The public face: its sixteen methods, and rule 1: "no other public [..] member". */
    private static void methodsAreThoseOfTheDocument() {
        Set<String> found = new TreeSet<>();
        for (Method method : StepHeap.class.getDeclaredMethods()) {
            if (Modifier.isPublic(method.getModifiers())) {
                found.add(nameOf(method));
                Check.due(nameOf(method) + " is static", Modifier.isStatic(method.getModifiers()), false);
                Check.due(nameOf(method) + " declares exceptions", method.getExceptionTypes().length, 0);
            }
        }
        for (String name : METHODS) {
            Check.due(name + " is there", found.contains(name), true);
        }
        for (String name : found) {
            Check.due(name + " is the document's", METHODS.contains(name), true);
        }
    }

    /** The public face: "public StepHeap(int h, int k)". */
    private static void constructorIsThatOfTheDocument() {
        int seen = 0;
        for (Constructor<?> constructor : StepHeap.class.getDeclaredConstructors()) {
            if (Modifier.isPublic(constructor.getModifiers())) {
                seen++;
                Check.due("StepHeap(int, int)", parametersOf(constructor).equals("(int, int)"), true);
            }
        }
        Check.due("public constructors", seen, 1);
    }

    /** The public face: "public static final int NONE = -1". */
    private static void constantIsThatOfTheDocument() throws ReflectiveOperationException {
        int modifiers = StepHeap.class.getField("NONE").getModifiers();
        Check.due("NONE is static", Modifier.isStatic(modifiers), true);
        Check.due("NONE is final", Modifier.isFinal(modifiers), true);
        Check.due("NONE is an int", StepHeap.class.getField("NONE").getType() == int.class, true);
        Check.due("NONE", StepHeap.NONE, -1);
        Check.due("public fields", StepHeap.class.getFields().length, 1);
    }

    /** Rule 1: "no other public, protected or package-visible member, but for the classes inside it". */
    private static void nothingElseIsSeen() {
        for (Method method : StepHeap.class.getDeclaredMethods()) {
            String name = nameOf(method);
            boolean isHidden = Modifier.isPrivate(method.getModifiers()) || method.isSynthetic();
            Check.due(name + " is private, or of the face", isHidden || METHODS.contains(name), true);
        }
        for (Field field : StepHeap.class.getDeclaredFields()) {
            boolean isHidden = Modifier.isPrivate(field.getModifiers()) || field.isSynthetic();
            Check.due(field + " is private, or of the face", isHidden || field.getName().equals("NONE"), true);
        }
    }

    /** Rule 1: "No private method bears the name of a public one": in the classes inside too. */
    private static void noPrivateMethodHasAPublicName() {
        Set<String> names = new TreeSet<>();
        for (String name : METHODS) {
            names.add(name.substring(name.indexOf(' ') + 1, name.indexOf('(')));
        }
        for (Class<?> type : allClasses()) {
            for (Method method : type.getDeclaredMethods()) {
                boolean isOfTheFace = type == StepHeap.class && Modifier.isPublic(method.getModifiers());
                Check.due(method + " has a public name", !isOfTheFace && names.contains(method.getName()), false);
            }
        }
    }

    /** Rule 1: "the classes inside it, which are private or package-visible and static". */
    private static void classesInsideAreStatic() {
        for (Class<?> type : StepHeap.class.getDeclaredClasses()) {
            int modifiers = type.getModifiers();
            Check.due(type + " is static", Modifier.isStatic(modifiers), true);
            Check.due(type + " is public", Modifier.isPublic(modifiers) || Modifier.isProtected(modifiers), false);
        }
    }

    /** Rule 5: "Static fields are final: constants of int, long, boolean, char or String". There are no rows here. */
    private static void staticFieldsAreConstants() {
        for (Class<?> type : allClasses()) {
            for (Field field : type.getDeclaredFields()) {
                if (Modifier.isStatic(field.getModifiers()) && !field.isSynthetic()) {
                    Check.due(field + " is final", Modifier.isFinal(field.getModifiers()), true);
                    Check.due(field + " is a constant", CONSTANTS.contains(field.getType().toString()), true);
                }
            }
        }
    }

    /** Rule 11: "at most seven parameters", "at most some twelve classes, and a class some twenty fields". */
    private static void countsAreSmall() {
        Check.due("few classes", allClasses().length <= MOST_CLASSES, true);
        for (Class<?> type : allClasses()) {
            int fields = 0;
            for (Field field : type.getDeclaredFields()) {
                fields += Modifier.isStatic(field.getModifiers()) ? 0 : 1;
            }
            Check.due(type + " has few fields", fields <= MOST_FIELDS, true);
            for (Method method : type.getDeclaredMethods()) {
                Check.due(method + " has few parameters", method.getParameterCount() <= MOST_PARAMETERS, true);
            }
        }
    }
}
