import java.lang.reflect.Constructor;
import java.lang.reflect.Field;
import java.lang.reflect.Method;
import java.lang.reflect.Modifier;
import java.util.Arrays;
import java.util.TreeSet;

/** The class has the document's face and nothing beside it. */
final class FaceTest {
    private static final String[] FACE = {
        "boolean type(long)",
        "void wipe()",
        "int begin(int) IndexOutOfBoundsException IllegalStateException",
        "int append(int,int,int) IndexOutOfBoundsException IllegalStateException"
                + " IllegalArgumentException UnsupportedOperationException",
        "int commit(int) IndexOutOfBoundsException IllegalStateException",
        "int abort(int) IndexOutOfBoundsException IllegalStateException",
        "boolean fail(int,int)",
        "int recover(int,int) IndexOutOfBoundsException IllegalStateException",
        "int pull(int) IndexOutOfBoundsException IllegalStateException"
                + " UnsupportedOperationException",
        "int text(int,int,int) IndexOutOfBoundsException IllegalStateException"
                + " UnsupportedOperationException",
        "int revisions(int)",
        "int record(int,int,int)",
        "long node(int,int)",
        "int data(int,int)",
        "boolean damage(int,int,int)",
        "int wrong(int)",
        "int heads(int)",
        "int common(int,int,int)",
    };

    public static void main(String[] args) {
        Check.runAll(FaceTest.class, "face");
    }

    static void faceHasTheMethodsOfTheDocument() {
        TreeSet<String> got = new TreeSet<>();
        for (Method method : RevisionVault.class.getDeclaredMethods()) {
            if (Modifier.isPrivate(method.getModifiers()) || method.isSynthetic()) {
                continue;
            }
            Check.due(method + " is public", Modifier.isPublic(method.getModifiers()), true);
            got.add(signature(method));
        }
        Check.dueText("the methods", got.toString(),
                new TreeSet<>(Arrays.asList(FACE)).toString());
    }

    private static String signature(Method method) {
        StringBuilder text = new StringBuilder();
        text.append(method.getReturnType()).append(' ').append(method.getName()).append('(');
        for (Class<?> parameter : method.getParameterTypes()) {
            text.append(text.charAt(text.length() - 1) == '(' ? "" : ",").append(parameter);
        }
        text.append(')');
        for (Class<?> thrown : method.getExceptionTypes()) {
            text.append(' ').append(thrown.getSimpleName());
        }
        return text.toString();
    }

    static void faceHasOnePublicConstructor() {
        Constructor<?>[] constructors = RevisionVault.class.getDeclaredConstructors();
        Check.due("constructors", constructors.length, 1);
        Check.due("parameters", constructors[0].getParameterCount(), 0);
        Check.due("public", Modifier.isPublic(constructors[0].getModifiers()), true);
    }

    static void faceShowsNoField() {
        for (Field field : RevisionVault.class.getDeclaredFields()) {
            Check.due(field + " is private", Modifier.isPrivate(field.getModifiers()), true);
            if (Modifier.isStatic(field.getModifiers())) {
                Check.due(field + " is final", Modifier.isFinal(field.getModifiers()), true);
            }
        }
    }

    static void faceIsAFinalClassWithStaticClassesInside() {
        Check.due("final", Modifier.isFinal(RevisionVault.class.getModifiers()), true);
        Check.due("public", Modifier.isPublic(RevisionVault.class.getModifiers()), true);
        for (Class<?> inside : RevisionVault.class.getDeclaredClasses()) {
            Check.due(inside + " is static", Modifier.isStatic(inside.getModifiers()), true);
            Check.due(inside + " is not public", Modifier.isPublic(inside.getModifiers()), false);
        }
    }

    static void facePrivateMethodsBearNoPublicName() {
        TreeSet<String> names = new TreeSet<>();
        for (String signature : FACE) {
            names.add(signature.substring(signature.indexOf(' ') + 1, signature.indexOf('(')));
        }
        for (Method method : RevisionVault.class.getDeclaredMethods()) {
            if (Modifier.isPrivate(method.getModifiers())) {
                Check.due(method.getName(), names.contains(method.getName()), false);
            }
        }
        for (Class<?> inside : RevisionVault.class.getDeclaredClasses()) {
            for (Method method : inside.getDeclaredMethods()) {
                Check.due(method.getName(), names.contains(method.getName()), false);
            }
        }
    }
}
