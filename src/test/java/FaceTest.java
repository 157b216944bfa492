import java.lang.reflect.Constructor;
import java.lang.reflect.Field;
import java.lang.reflect.Method;
import java.lang.reflect.Modifier;
import java.util.ArrayList;
import java.util.Arrays;
import java.util.Collections;
import java.util.HashSet;
import java.util.List;
import java.util.Set;

/** The public face: the document's members, with their throws clauses, and none besides. */
public final class FaceTest {
    private static final Check check = new Check();
    private static final String[] DUE = {
        "append(int):int IllegalArgumentException IllegalStateException",
        "clearBuffer():int",
        "correct():int",
        "count(int):int IllegalArgumentException",
        "dial(int,int):int IndexOutOfBoundsException IllegalArgumentException",
        "digest():long",
        "drift(int,int):int IndexOutOfBoundsException IllegalArgumentException",
        "firstError():int",
        "goBack():int IllegalStateException",
        "heldShare():double",
        "keep():int",
        "meanError():float",
        "obey():int IllegalArgumentException",
        "pivot():int",
        "put(int,int):int IndexOutOfBoundsException IllegalArgumentException",
        "quarrelIn(int):int IndexOutOfBoundsException",
        "ringsIn(int):int IndexOutOfBoundsException",
        "says(int,int):int IndexOutOfBoundsException IllegalArgumentException",
        "set(int,int):int IndexOutOfBoundsException IllegalArgumentException",
        "setting(int):int IndexOutOfBoundsException",
        "tick(int):int IllegalArgumentException",
        "undo():int IllegalStateException",
        "vote():int IllegalStateException",
        "warden(int,int,int):int IndexOutOfBoundsException IllegalArgumentException",
        "wins(int):int IndexOutOfBoundsException",
        "without(int):int IndexOutOfBoundsException"
    };

    public static void main(String[] args) {
        Class<?> face = DialWardens.class;
        if (!Modifier.isFinal(face.getModifiers()) || !Modifier.isPublic(face.getModifiers())) {
            check.tell("the class is not public and final");
        }
        methods(face);
        fields(face);
        constructors(face);
        inside(face);
        check.end();
    }

    private static String told(Method method) {
        List<String> takes = new ArrayList<>();
        for (Class<?> type : method.getParameterTypes()) {
            takes.add(type.getSimpleName());
        }
        StringBuilder text = new StringBuilder(method.getName());
        text.append('(').append(String.join(",", takes)).append("):").append(method.getReturnType().getSimpleName());
        for (Class<?> thrown : method.getExceptionTypes()) {
            text.append(' ').append(thrown.getSimpleName());
        }
        return text.toString();
    }

    private static void methods(Class<?> face) {
        List<String> got = new ArrayList<>();
        Set<String> open = new HashSet<>();
        Set<String> closed = new HashSet<>();
        for (Method method : face.getDeclaredMethods()) {
            if (Modifier.isPrivate(method.getModifiers())) {
                closed.add(method.getName());
            } else if (!method.isSynthetic()) {
                open.add(method.getName());
                got.add(told(method));
            }
        }
        Collections.sort(got);
        if (!got.equals(Arrays.asList(DUE))) {
            check.tell("the methods are " + got);
        }
        closed.retainAll(open);
        if (!closed.isEmpty()) {
            check.tell("private methods with names of public ones: " + closed);
        }
    }

    private static void fields(Class<?> face) {
        for (Field field : face.getDeclaredFields()) {
            boolean isNone = field.getName().equals("NONE") && field.getType() == int.class;
            if (!isNone && !Modifier.isPrivate(field.getModifiers())) {
                check.tell("an open field: " + field);
            }
            if (isNone && field.getModifiers() != (Modifier.PUBLIC | Modifier.STATIC | Modifier.FINAL)) {
                check.tell("NONE is no public constant");
            }
            if (Modifier.isStatic(field.getModifiers()) && !Modifier.isFinal(field.getModifiers())) {
                check.tell("a static field that is not final: " + field);
            }
        }
    }

    private static void constructors(Class<?> face) {
        Constructor<?>[] all = face.getDeclaredConstructors();
        if (all.length != 1 || all[0].getModifiers() != Modifier.PUBLIC || all[0].getParameterCount() != 0) {
            check.tell("the constructors are " + Arrays.toString(all));
        }
    }

    private static void inside(Class<?> face) {
        for (Class<?> inner : face.getDeclaredClasses()) {
            int modifiers = inner.getModifiers();
            if (Modifier.isPublic(modifiers) || Modifier.isProtected(modifiers)) {
                check.tell("a class inside that is open: " + inner);
            }
        }
    }
}
