import java.lang.reflect.Constructor;
import java.lang.reflect.Field;
import java.lang.reflect.Member;
import java.lang.reflect.Method;
import java.lang.reflect.Modifier;
import java.util.Arrays;
import java.util.TreeSet;

/** The class shows the document's face to the outside, and nothing else. */
public final class FaceTest {
    private static final String[] FACE = {
        "check(int) IllegalArgumentException",
        "clear(int) IllegalArgumentException",
        "comes(int,int) IllegalArgumentException",
        "count(int,int) IllegalArgumentException",
        "follows(int,int) IllegalArgumentException",
        "most(int,int,int,int) IllegalArgumentException NoSuchElementException ArithmeticException",
        "refine(int,int,int,int,int) IllegalArgumentException IllegalStateException",
        "statement(int,int,int,int,int,int) IllegalArgumentException UnsupportedOperationException IllegalStateException",
        "ways(int) IllegalArgumentException"
    };
    private static int wrong = 0;

    private static void hold(boolean holds, String what) {
        if (!holds) {
            wrong++;
            System.out.println("does not hold: " + what);
        }
    }

    private static boolean isSeen(Member member) {
        return !Modifier.isPrivate(member.getModifiers()) && !member.isSynthetic();
    }

    public static void main(String[] args) {
        Class<LiquidChecker> face = LiquidChecker.class;
        hold(Modifier.isPublic(face.getModifiers()) && Modifier.isFinal(face.getModifiers()), "public and final");

        TreeSet<String> seen = new TreeSet<>();
        TreeSet<String> publicNames = new TreeSet<>();
        for (Method method : face.getDeclaredMethods()) {
            if (isSeen(method)) {
                StringBuilder types = new StringBuilder();
                for (Class<?> type : method.getParameterTypes()) {
                    types.append(types.length() == 0 ? "" : ",").append(type.getName());
                }
                StringBuilder thrown = new StringBuilder();
                for (Class<?> type : method.getExceptionTypes()) {
                    thrown.append(' ').append(type.getSimpleName());
                }
                seen.add(method.getName() + "(" + types + ")" + thrown);
                publicNames.add(method.getName());
                hold(Modifier.isPublic(method.getModifiers()), method.getName() + " is public");
                hold(!Modifier.isStatic(method.getModifiers()), method.getName() + " belongs to an object");
                hold(method.getReturnType() == int.class, method.getName() + " answers an int");
            }
        }
        hold(seen.equals(new TreeSet<>(Arrays.asList(FACE))), "the methods are those of the document: " + seen);
        for (Method method : face.getDeclaredMethods()) {
            hold(isSeen(method) || !publicNames.contains(method.getName()), "no private " + method.getName());
        }
        for (Field field : face.getDeclaredFields()) {
            hold(!isSeen(field), "field " + field.getName() + " is private");
        }
        Constructor<?>[] constructors = face.getDeclaredConstructors();
        hold(constructors.length == 1 && Modifier.isPublic(constructors[0].getModifiers())
                && constructors[0].getParameterCount() == 0, "one public constructor without arguments");
        for (Class<?> inner : face.getDeclaredClasses()) {
            int modifiers = inner.getModifiers();
            hold(Modifier.isStatic(modifiers) && !Modifier.isPublic(modifiers) && !Modifier.isProtected(modifiers),
                    inner.getName() + " is static and not public");
        }
        System.out.println(wrong == 0 ? "the face is as due" : wrong + " things of the face are not as due");
        if (wrong != 0) {
            System.exit(1);
        }
    }
}
