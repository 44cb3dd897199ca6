import java.lang.reflect.Constructor;
import java.lang.reflect.Field;
import java.lang.reflect.Method;
import java.lang.reflect.Modifier;
import java.util.ArrayList;
import java.util.Arrays;
import java.util.Collections;
import java.util.HashSet;
import java.util.List;
import java.util.Set;

/** The public face of the document, and nothing beside it. */
public final class FaceTest {
    private static final String[] FACE = {
        "int field(int,int,int,boolean) IllegalArgumentException IllegalStateException",
        "int make(int) IllegalArgumentException IllegalStateException",
        "long number(int,int,long) NoSuchElementException UnsupportedOperationException",
        "int add(int) IllegalStateException",
        "int fill(int,int) NoSuchElementException UnsupportedOperationException",
        "int link(int,int,int) NoSuchElementException UnsupportedOperationException",
        "int unset(int,int) NoSuchElementException",
        "int build(int) NoSuchElementException IllegalStateException IndexOutOfBoundsException",
        "int at(int) IndexOutOfBoundsException",
        "int patch(int,int) IndexOutOfBoundsException",
        "int cut(int) IndexOutOfBoundsException",
        "int verify(int) IllegalArgumentException",
        "int fault()",
        "int top() IllegalStateException",
        "int down(int) IllegalStateException NoSuchElementException UnsupportedOperationException",
        "long value(int) IllegalStateException NoSuchElementException UnsupportedOperationException",
        "int size(int) IllegalStateException NoSuchElementException UnsupportedOperationException",
        "int element(int,int) IllegalStateException NoSuchElementException"
            + " UnsupportedOperationException IndexOutOfBoundsException",
        "int count(int) IllegalArgumentException"};
    private static final Check check = new Check("FaceTest");

    public static void main(String[] args) {
        Class<?> face = FlatStore.class;
        check.compare("modifiers", "public final", Modifier.toString(face.getModifiers()));
        methods(face);
        fields(face);
        Constructor<?>[] constructors = face.getDeclaredConstructors();
        check.due("constructors", 1, () -> constructors.length);
        check.compare("constructor", "public FlatStore()", constructors[0].toString());
        for (Class<?> inside : face.getDeclaredClasses()) {
            int modifiers = inside.getModifiers();
            check.compare(inside + " is no part of the face", "false",
                "" + (Modifier.isPublic(modifiers) || Modifier.isProtected(modifiers)));
            check.compare(inside + " is static", "true", "" + Modifier.isStatic(modifiers));
        }
        check.end();
    }

    private static void methods(Class<?> face) {
        List<String> seen = new ArrayList<>();
        Set<String> open = new HashSet<>();
        for (Method method : face.getDeclaredMethods()) {
            if (!Modifier.isPrivate(method.getModifiers())) {
                seen.add(told(method));
                open.add(method.getName());
            }
        }
        for (Method method : face.getDeclaredMethods()) {
            if (Modifier.isPrivate(method.getModifiers())) {
                check.compare(method.getName() + " is private and of the face", "false",
                    "" + open.contains(method.getName()));
            }
        }
        List<String> want = new ArrayList<>(Arrays.asList(FACE));
        Collections.sort(want);
        Collections.sort(seen);
        check.compare("methods", want.toString(), seen.toString());
    }

    private static String told(Method method) {
        StringBuilder text = new StringBuilder();
        text.append(method.getReturnType()).append(' ').append(method.getName()).append('(');
        String comma = "";
        for (Class<?> parameter : method.getParameterTypes()) {
            text.append(comma).append(parameter);
            comma = ",";
        }
        text.append(')');
        for (Class<?> exception : method.getExceptionTypes()) {
            text.append(' ').append(exception.getSimpleName());
        }
        return text.toString();
    }

    private static void fields(Class<?> face) {
        for (Field field : face.getDeclaredFields()) {
            int modifiers = field.getModifiers();
            check.compare(field + " is private", "true", "" + Modifier.isPrivate(modifiers));
            if (Modifier.isStatic(modifiers)) {
                check.compare(field + " is final", "true", "" + Modifier.isFinal(modifiers));
            }
        }
    }
}
