import java.lang.reflect.Constructor;
import java.lang.reflect.Field;
import java.lang.reflect.Method;
import java.lang.reflect.Modifier;
import java.util.Arrays;
import java.util.HashSet;
import java.util.List;
import java.util.Set;
import java.util.TreeSet;

/** The public face is the document's and no more, as rules 1, 5 and 11 of LANGUAGE.md ask. */
final class FaceTest {
    private static final List<String> FACE = List.of(
        "int addMule(int,int,boolean) IndexOutOfBoundsException IllegalArgumentException IllegalStateException",
        "int addStation(int) IllegalArgumentException IllegalStateException",
        "int advise(int) IllegalArgumentException IllegalStateException",
        "int arrives(int) IndexOutOfBoundsException",
        "int build(int,int,int) IndexOutOfBoundsException IllegalArgumentException IllegalStateException",
        "int count(int) IndexOutOfBoundsException",
        "int fire(int,int) IndexOutOfBoundsException",
        "int foresee(int,int) IndexOutOfBoundsException IllegalArgumentException",
        "int letter(int,int) IndexOutOfBoundsException",
        "int mule(int,int) IndexOutOfBoundsException",
        "int pass(int) IllegalArgumentException",
        "int post(int,int,int) IndexOutOfBoundsException IllegalArgumentException IllegalStateException",
        "int recall(int) IndexOutOfBoundsException IllegalStateException",
        "int road(int,int) IndexOutOfBoundsException",
        "int setFog(int,boolean) IndexOutOfBoundsException",
        "int setSight(int,int,boolean) IndexOutOfBoundsException IllegalArgumentException",
        "int station(int,int) IndexOutOfBoundsException",
        "int way(int,int,int) IndexOutOfBoundsException",
        "double mean()",
        "long digest()");

    private FaceTest() {
    }

    public static void main(String[] args) {
        Class<MountainPost> post = MountainPost.class;
        Check.due("MountainPost is public and final", Modifier.PUBLIC | Modifier.FINAL, post::getModifiers);
        Set<String> told = new TreeSet<>();
        Set<String> openNames = new HashSet<>();
        for (Method method : post.getDeclaredMethods()) {
            if (!Modifier.isPrivate(method.getModifiers())) {
                told.add(told(method));
                openNames.add(method.getName());
            }
        }
        Check.due("the methods that are not private", new TreeSet<>(FACE), () -> told);
        for (Constructor<?> made : post.getDeclaredConstructors()) {
            Check.due("the constructor", "public MountainPost()", made::toString);
        }
        for (Method method : post.getDeclaredMethods()) {
            if (Modifier.isPrivate(method.getModifiers())) {
                Check.due(method + " bears a public name", false, () -> openNames.contains(method.getName()));
            }
        }
        fieldsOf(post);
        Check.due("at most twelve classes", true, () -> post.getDeclaredClasses().length < 12);
        for (Class<?> inside : post.getDeclaredClasses()) {
            Check.due(inside + " is static", true, () -> Modifier.isStatic(inside.getModifiers()));
            Check.due(inside + " is not public", false, () -> Modifier.isPublic(inside.getModifiers()));
            fieldsOf(inside);
        }
        Check.end();
    }

    private static void fieldsOf(Class<?> type) {
        int own = 0;
        for (Field field : type.getDeclaredFields()) {
            int modifiers = field.getModifiers();
            Check.due(field + " is private", true, () -> Modifier.isPrivate(modifiers));
            if (Modifier.isStatic(modifiers)) {
                Check.due(field + " is final", true, () -> Modifier.isFinal(modifiers));
            } else {
                own++;
            }
        }
        int fields = own;
        Check.due(type + " has at most twenty fields", true, () -> fields <= 20);
    }

    private static String told(Method method) {
        StringBuilder text = new StringBuilder();
        text.append(method.getReturnType()).append(' ').append(method.getName()).append('(');
        text.append(String.join(",", Arrays.stream(method.getParameterTypes()).map(Class::getName).toList()));
        text.append(')');
        for (Class<?> thrown : method.getExceptionTypes()) {
            text.append(' ').append(thrown.getSimpleName());
        }
        return text.toString();
    }
}
