import java.lang.reflect.Constructor;
import java.lang.reflect.Field;
import java.lang.reflect.Method;
import java.lang.reflect.Modifier;
import java.util.ArrayList;
import java.util.Arrays;
import java.util.Collections;
import java.util.List;

/** The public face is the document's and nothing more (LANGUAGE.md, rules 1 and 5). */
public final class FaceTest {
    private static final String A = "IllegalArgumentException";
    private static final String S = "IllegalStateException";
    private static final String U = "UnsupportedOperationException";
    private static final String N = "NoSuchElementException";
    private static final String I = "IndexOutOfBoundsException";

    private static final Check check = new Check();

    public static void main(String[] args) {
        check.due("the class is public and final", Modifier.PUBLIC | Modifier.FINAL, EditablePast.class.getModifiers());
        constructorIsTheOnlyOne();
        methodsAreTheDocuments();
        privateMethodsHaveOtherNames();
        fieldsAreHidden();
        innerClassesAreStatic();
        check.end();
    }

    private static void constructorIsTheOnlyOne() {
        Constructor<?>[] constructors = EditablePast.class.getDeclaredConstructors();
        check.due("constructors", 1, constructors.length);
        check.due("constructor's modifiers", Modifier.PUBLIC, constructors[0].getModifiers());
        check.due("constructor's parameters", 0, constructors[0].getParameterCount());
    }

    private static void methodsAreTheDocuments() {
        List<String> want = new ArrayList<>(List.of(
                face("void", "open", "int int", A, S),
                face("int", "close", "int", A, S),
                face("void", "put", "int int int int int", A, S, U),
                face("boolean", "strike", "int int", A, S),
                face("void", "shift", "int int int", A, S, N),
                face("int", "front", "int int", A, S, N),
                face("int", "size", "int int", A, S),
                face("int", "at", "int int int", A, S, N),
                face("int", "least", "int int int", A, S, I),
                face("long", "sum", "int int", A, S),
                face("boolean", "together", "int int int int", A, S),
                face("long", "result", "int int", A, S, N),
                face("boolean", "works", "int int", A, S, N),
                face("int", "effective", "int int int", A, S),
                face("int", "firstChange", "int int int", A, S),
                face("int", "operations", "int", A, S),
                face("int", "operation", "int int int", A, S, I)));
        List<String> got = new ArrayList<>();
        for (Method method : EditablePast.class.getDeclaredMethods()) {
            if (!Modifier.isPrivate(method.getModifiers())) {
                check.due(method.getName() + "'s modifiers", Modifier.PUBLIC, method.getModifiers());
                got.add(face(method.getReturnType().getSimpleName(), method.getName(),
                        names(method.getParameterTypes()), names(method.getExceptionTypes())));
            }
        }
        Collections.sort(want);
        Collections.sort(got);
        check.due("the methods", String.join("\n", want), String.join("\n", got));
    }

    private static void privateMethodsHaveOtherNames() {
        List<String> faceNames = new ArrayList<>();
        for (Method method : EditablePast.class.getMethods()) {
            faceNames.add(method.getName());
        }
        for (Method method : EditablePast.class.getDeclaredMethods()) {
            if (Modifier.isPrivate(method.getModifiers())) {
                check.due(method.getName() + " is private and public", false, faceNames.contains(method.getName()));
            }
        }
    }

    private static void fieldsAreHidden() {
        for (Field field : EditablePast.class.getDeclaredFields()) {
            int modifiers = field.getModifiers();
            check.due(field.getName() + " is private", true, Modifier.isPrivate(modifiers));
            check.due(field.getName() + " is no changing static", true,
                    !Modifier.isStatic(modifiers) || Modifier.isFinal(modifiers));
        }
    }

    private static void innerClassesAreStatic() {
        for (Class<?> inner : EditablePast.class.getDeclaredClasses()) {
            int modifiers = inner.getModifiers();
            check.due(inner.getName() + " is static", true, Modifier.isStatic(modifiers));
            check.due(inner.getName() + " is hidden", false,
                    Modifier.isPublic(modifiers) || Modifier.isProtected(modifiers));
        }
    }

    private static String names(Class<?>[] types) {
        return String.join(" ", Arrays.stream(types).map(Class::getSimpleName).toList());
    }

    private static String face(String type, String name, String parameters, String... exceptions) {
        return type + " " + name + "(" + parameters + ") throws " + String.join(" ", exceptions);
    }
}
