import java.lang.reflect.Constructor;
import java.lang.reflect.Member;
import java.lang.reflect.Method;
import java.lang.reflect.Modifier;
import java.util.ArrayList;
import java.util.Arrays;
import java.util.List;
import java.util.TreeSet;

/** The class has the document's face and no other member that can be seen. */
public final class FaceTest {
    private static final List<String> FACE = List.of(
        "int precision(int, int)",
        "int range(int, int, boolean)",
        "int flags(boolean)",
        "int number(int, long, int, int)",
        "int copy(int, int, int, int)",
        "int reckon(int, int, int, int, int)",
        "int fused(int, int, int, int, int)",
        "int root(int, int, int, int)",
        "int power(int, int, int, int)",
        "int whole(int, int, int, int)",
        "int sum(int, int, int, int)",
        "int dot(int, int, int, int, int)",
        "int neighbour(int, boolean)",
        "int compare(int, int)",
        "int look(int, int)",
        "long word(int, int)",
        "int fromDouble(int, long, int)",
        "long toDouble(int, int)",
        "long toLong(int, int)",
        "void feed(int, int, int, int, int)",
        "int end(int)",
        "int read(int, int, int)",
        "int write(int, int, int, int)",
        "int octet(int)");

    public static void main(String[] args) {
        List<String> wrong = new ArrayList<>();
        Class<?> type = TrueFloats.class;
        if (!Modifier.isPublic(type.getModifiers()) || !Modifier.isFinal(type.getModifiers())) {
            wrong.add("the class is not public and final");
        }
        TreeSet<String> seen = new TreeSet<>();
        TreeSet<String> names = new TreeSet<>();
        for (Method method : type.getDeclaredMethods()) {
            if (isSeen(method)) {
                seen.add(describe(method));
                names.add(method.getName());
            }
        }
        if (!seen.equals(new TreeSet<>(FACE))) {
            wrong.add("the methods that are seen are " + seen);
        }
        for (Constructor<?> constructor : type.getDeclaredConstructors()) {
            if (!Modifier.isPublic(constructor.getModifiers()) || constructor.getParameterCount() != 0) {
                wrong.add("there is " + constructor);
            }
        }
        for (Member field : type.getDeclaredFields()) {
            if (!Modifier.isPrivate(field.getModifiers())) {
                wrong.add("the field " + field.getName() + " is not private");
            }
        }
        lookInside(type, names, wrong);
        wrong.forEach(System.out::println);
        System.out.println("face: " + (wrong.isEmpty() ? "as the document says" : wrong.size() + " faults"));
        if (!wrong.isEmpty()) {
            System.exit(1);
        }
    }

    private static void lookInside(Class<?> type, TreeSet<String> names, List<String> wrong) {
        for (Class<?> inner : type.getDeclaredClasses()) {
            if (!Modifier.isStatic(inner.getModifiers()) || Modifier.isPublic(inner.getModifiers())) {
                wrong.add(inner + " is public or not static");
            }
            for (Method method : inner.getDeclaredMethods()) {
                if (names.contains(method.getName())) {
                    wrong.add(inner + " has a method with a public one's name: " + method.getName());
                }
            }
        }
        for (Method method : type.getDeclaredMethods()) {
            if (!isSeen(method) && names.contains(method.getName())) {
                wrong.add("a private method has a public one's name: " + method.getName());
            }
        }
    }

    private static boolean isSeen(Member member) {
        return !Modifier.isPrivate(member.getModifiers());
    }

    private static String describe(Method method) {
        String parameters = Arrays.toString(method.getParameterTypes());
        String public_ = Modifier.isPublic(method.getModifiers()) ? "" : "hidden ";
        return public_ + method.getReturnType() + " " + method.getName() + "("
            + parameters.substring(1, parameters.length() - 1) + ")";
    }
}
