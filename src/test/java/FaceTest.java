import java.lang.reflect.Constructor;
import java.lang.reflect.Executable;
import java.lang.reflect.Field;
import java.lang.reflect.Member;
import java.lang.reflect.Method;
import java.lang.reflect.Modifier;
import java.util.Arrays;
import java.util.Set;
import java.util.TreeSet;

/** "The public face", and rule 1 of LANGUAGE.md: nothing else of the class can be seen from outside. */
public final class FaceTest {
    private static final Set<String> DUE = Set.of(
        "public static final int NONE = -1",
        "public PagerHouse(int, int)",
        "public int begin(int)",
        "public int fork(int)",
        "public boolean end(int)",
        "public int read(int, int) throws IndexOutOfBoundsException, IllegalStateException",
        "public int write(int, int, int) throws IndexOutOfBoundsException, IllegalStateException",
        "public boolean drop(int, int)",
        "public int flush()",
        "public int page(int, int, int)",
        "public int frame(int, int)",
        "public int stored(int, int) throws IndexOutOfBoundsException",
        "public int look(int)");

    private static int wrong = 0;

    private FaceTest() {
    }

    public static void main(String[] args) throws IllegalAccessException {
        Class<?> house = PagerHouse.class;
        hold("the class is public and final", house.getModifiers() == (Modifier.PUBLIC | Modifier.FINAL));
        hold("the class has no package", house.getPackageName().isEmpty());
        hold("the class is of no other class", house.getSuperclass() == Object.class && house.getInterfaces().length == 0);
        holdFace(seenFace(house));
        holdNestedClasses(house);
        holdPrivateNames(house);
        System.out.println(wrong == 0 ? "the face is as due" : wrong + " faults in the face");
        if (wrong != 0) {
            System.exit(1);
        }
    }

    private static void hold(String what, boolean holds) {
        if (!holds) {
            wrong++;
            System.out.println("not so: " + what);
        }
    }

    private static void holdFace(Set<String> seen) {
        for (String member : new TreeSet<>(DUE)) {
            hold("there is " + member, seen.contains(member));
        }
        for (String member : seen) {
            hold("nothing of this kind is to be seen: " + member, DUE.contains(member));
        }
    }

    private static Set<String> seenFace(Class<?> house) throws IllegalAccessException {
        Set<String> seen = new TreeSet<>();
        for (Field field : house.getDeclaredFields()) {
            if (isSeen(field)) {
                String value = Modifier.isStatic(field.getModifiers()) ? " = " + field.get(null) : "";
                seen.add(told(field, field.getType().getSimpleName() + " " + field.getName() + value));
            }
        }
        for (Constructor<?> constructor : house.getDeclaredConstructors()) {
            if (isSeen(constructor)) {
                seen.add(told(constructor, called(constructor)));
            }
        }
        for (Method method : house.getDeclaredMethods()) {
            if (isSeen(method)) {
                seen.add(told(method, method.getReturnType().getSimpleName() + " " + called(method)));
            }
        }
        return seen;
    }

    private static boolean isSeen(Member member) {
        return !Modifier.isPrivate(member.getModifiers()) && !member.isSynthetic();
    }

    private static String told(Member member, String rest) {
        return (Modifier.toString(member.getModifiers()) + " " + rest).trim();
    }

    private static String called(Executable executable) {
        String name = executable instanceof Constructor<?> ? "PagerHouse" : executable.getName();
        String thrown = names(executable.getExceptionTypes());
        return name + "(" + names(executable.getParameterTypes()) + ")" + (thrown.isEmpty() ? "" : " throws " + thrown);
    }

    private static String names(Class<?>[] types) {
        return String.join(", ", Arrays.stream(types).map(Class::getSimpleName).toList());
    }

    private static void holdNestedClasses(Class<?> house) {
        for (Class<?> nested : house.getDeclaredClasses()) {
            int modifiers = nested.getModifiers();
            hold(nested.getName() + " is static, and private or package-visible",
                Modifier.isStatic(modifiers) && !Modifier.isPublic(modifiers) && !Modifier.isProtected(modifiers));
        }
    }

    private static void holdPrivateNames(Class<?> house) {
        for (Method method : house.getDeclaredMethods()) {
            boolean bearsPublicName = DUE.stream().anyMatch(member -> member.contains(" " + method.getName() + "("));
            hold("no private method bears the name " + method.getName(), isSeen(method) || !bearsPublicName);
        }
    }
}
