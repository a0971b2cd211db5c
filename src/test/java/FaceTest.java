import java.lang.reflect.Constructor;
import java.lang.reflect.Field;
import java.lang.reflect.Method;
import java.lang.reflect.Modifier;
import java.util.ArrayList;
import java.util.Arrays;
import java.util.Collections;
import java.util.HashSet;
import java.util.List;
import java.util.Set;

/** The public face of the document, and nothing beside it (LANGUAGE.md, rules 1, 5 and 11). */
final class FaceTest {
    private static final String[] FACE = {
        "int make(int,int,int) IllegalArgumentException IllegalStateException",
        "int follow(int,int) IndexOutOfBoundsException IllegalArgumentException IllegalStateException",
        "int post() IllegalStateException",
        "int come(int) IllegalArgumentException IllegalStateException",
        "int tell(int,int,int) IndexOutOfBoundsException IllegalStateException",
        "int reserve(int,int) IndexOutOfBoundsException IllegalStateException",
        "boolean pass(int) IndexOutOfBoundsException IllegalStateException",
        "int send(int) IndexOutOfBoundsException IllegalStateException",
        "int watch(int) IllegalArgumentException",
        "int scene(int,int) IndexOutOfBoundsException",
        "int guard(int,int) IndexOutOfBoundsException",
        "int traveller(int,int) IndexOutOfBoundsException",
        "int plot(int,int) IndexOutOfBoundsException",
        "int told(int,int) IndexOutOfBoundsException",
        "int count(int) IndexOutOfBoundsException",
        "int worth(int,int) IndexOutOfBoundsException",
        "int best(int,int) IndexOutOfBoundsException",
        "int most(int) IndexOutOfBoundsException",
        "int sleeps(int) IndexOutOfBoundsException",
        "double mean()",
        "long digest()",
    };

    private FaceTest() {
    }

    private static String textOf(Method method) {
        StringBuilder text = new StringBuilder();
        text.append(method.getReturnType()).append(' ').append(method.getName()).append('(');
        for (int i = 0; i < method.getParameterCount(); i++) {
            text.append(i > 0 ? "," : "").append(method.getParameterTypes()[i]);
        }
        text.append(')');
        for (Class<?> exception : method.getExceptionTypes()) {
            text.append(' ').append(exception.getSimpleName());
        }
        return text.toString();
    }

    private static void methods() {
        List<String> found = new ArrayList<>();
        Set<String> publicNames = new HashSet<>();
        for (Method method : StoryToll.class.getDeclaredMethods()) {
            if (!Modifier.isPrivate(method.getModifiers())) {
                found.add(textOf(method));
                publicNames.add(method.getName());
                Check.due(method.getName() + " is public", true, Modifier.isPublic(method.getModifiers()));
            }
        }
        for (Method method : StoryToll.class.getDeclaredMethods()) {
            if (Modifier.isPrivate(method.getModifiers())) {
                Check.due("the private " + method.getName() + " has a name of the face", false,
                        publicNames.contains(method.getName()));
            }
        }
        List<String> want = new ArrayList<>(Arrays.asList(FACE));
        Collections.sort(want);
        Collections.sort(found);
        if (!want.equals(found)) {
            Check.wrong("the face is " + found + ", due is " + want);
        }
    }

    private static void classAndFields() {
        Check.due("the class is public and final", Modifier.PUBLIC | Modifier.FINAL, StoryToll.class.getModifiers());
        Constructor<?>[] constructors = StoryToll.class.getDeclaredConstructors();
        Check.due("constructors", 1, constructors.length);
        Check.due("the constructor is public", Modifier.PUBLIC, constructors[0].getModifiers());
        Check.due("parameters of the constructor", 0, constructors[0].getParameterCount());
        for (Field field : StoryToll.class.getDeclaredFields()) {
            int modifiers = field.getModifiers();
            Check.due(field.getName() + " is private", true, Modifier.isPrivate(modifiers));
            Check.due(field.getName() + " is final if it is static", true,
                    !Modifier.isStatic(modifiers) || Modifier.isFinal(modifiers));
        }
    }

    private static void classesInside() {
        for (Class<?> inside : StoryToll.class.getDeclaredClasses()) {
            int modifiers = inside.getModifiers();
            Check.due(inside.getName() + " is static", true, Modifier.isStatic(modifiers));
            Check.due(inside.getName() + " is neither public nor protected", false,
                    Modifier.isPublic(modifiers) || Modifier.isProtected(modifiers));
        }
    }

    public static void main(String[] args) {
        methods();
        classAndFields();
        classesInside();
        Check.end();
    }
}
