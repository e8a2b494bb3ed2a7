import java.lang.reflect.Constructor;
import java.lang.reflect.Field;
import java.lang.reflect.Method;
import java.lang.reflect.Modifier;
import java.util.ArrayList;
import java.util.Arrays;
import java.util.HashSet;
import java.util.List;
import java.util.Set;

/** The public face is that of the document, and nothing more (LANGUAGE.md, rules 1, 5 and 11). */
public final class TickFallFaceTest {
    private static final String INDEX = "IndexOutOfBoundsException";
    private static final String ARGUMENT = "IllegalArgumentException";
    private static final String STATE = "IllegalStateException";

    private static final String[] FACE = {
        "int clock(int,int) " + ARGUMENT + " " + STATE,
        "int tell(int,int,int) " + INDEX + " " + ARGUMENT,
        "int link(int,int,int) " + INDEX + " " + ARGUMENT + " " + STATE,
        "int event(int,int,int,int) " + ARGUMENT + " " + INDEX + " " + STATE,
        "int calibrate(int,int,int,int) " + INDEX + " " + ARGUMENT + " " + STATE,
        "void bounds(int,int) " + ARGUMENT,
        "int pass(int) " + ARGUMENT + " " + STATE,
        "int vote(int,boolean) " + INDEX,
        "boolean adopt() " + STATE,
        "int day()",
        "int of(int,int) " + INDEX + " " + ARGUMENT,
        "int measured(int,int,boolean) " + INDEX,
        "int closes(int,int,int,int) " + INDEX + " " + ARGUMENT,
        "int open(int) " + INDEX,
        "int slips(int) " + INDEX,
        "int mean(int) " + INDEX,
        "int published(int,boolean) " + INDEX,
        "int height(int,int,int,int) " + INDEX + " " + ARGUMENT,
        "int events()",
    };

    private static int wrong = 0;

    private static void check(String what, boolean holds) {
        if (!holds) {
            wrong++;
            System.out.println("wrong: " + what);
        }
    }

    private static String written(Method method) {
        List<String> parameters = new ArrayList<>();
        for (Class<?> type : method.getParameterTypes()) {
            parameters.add(type.getName());
        }
        StringBuilder text = new StringBuilder(method.getReturnType().getName() + " " + method.getName()
                + "(" + String.join(",", parameters) + ")");
        for (Class<?> exception : method.getExceptionTypes()) {
            text.append(" ").append(exception.getSimpleName());
        }
        return text.toString();
    }

    private static Set<String> checkMethods() {
        Set<String> publicNames = new HashSet<>();
        Set<String> found = new HashSet<>();
        for (Method method : TickFall.class.getDeclaredMethods()) {
            if (Modifier.isPublic(method.getModifiers())) {
                found.add(written(method));
                publicNames.add(method.getName());
                check(method + " is an instance's method", !Modifier.isStatic(method.getModifiers()));
            } else {
                check(method + " is private", Modifier.isPrivate(method.getModifiers()));
            }
        }
        check("the public methods are " + Arrays.toString(FACE) + ", but are " + found,
                found.equals(new HashSet<>(Arrays.asList(FACE))));
        return publicNames;
    }

    private static void checkHiddenNames(Class<?> owner, Set<String> publicNames) {
        for (Method method : owner.getDeclaredMethods()) {
            if (!Modifier.isPublic(method.getModifiers())) {
                check(method + " bears no public name", !publicNames.contains(method.getName()));
            }
            check(method + " takes at most seven parameters", method.getParameterCount() <= 7);
        }
        int instanceFields = 0;
        for (Field field : owner.getDeclaredFields()) {
            if (Modifier.isStatic(field.getModifiers())) {
                check(field + " is final", Modifier.isFinal(field.getModifiers()));
            } else {
                instanceFields++;
            }
        }
        check(owner + " has at most twenty fields", instanceFields <= 20);
    }

    private static void checkFields() throws IllegalAccessException {
        Set<String> found = new HashSet<>();
        for (Field field : TickFall.class.getDeclaredFields()) {
            if (Modifier.isPublic(field.getModifiers())) {
                check(field + " is a static int", Modifier.isStatic(field.getModifiers())
                        && field.getType() == int.class);
                found.add(field.getName() + "=" + field.getInt(null));
            } else {
                check(field + " is private", Modifier.isPrivate(field.getModifiers()));
            }
        }
        check("the constants are as told, but are " + found,
                found.equals(Set.of("NONE=-1", "JUMP=0", "MOVE=1", "REROUTE=2", "SLIP=3")));
    }

    public static void main(String[] args) throws IllegalAccessException {
        check("the class is public and final", Modifier.isPublic(TickFall.class.getModifiers())
                && Modifier.isFinal(TickFall.class.getModifiers()));
        Constructor<?>[] constructors = TickFall.class.getDeclaredConstructors();
        check("there is one public constructor without parameters", constructors.length == 1
                && Modifier.isPublic(constructors[0].getModifiers()) && constructors[0].getParameterCount() == 0);
        checkFields();
        Set<String> publicNames = checkMethods();
        checkHiddenNames(TickFall.class, publicNames);
        Class<?>[] inside = TickFall.class.getDeclaredClasses();
        check("there are at most twelve classes", inside.length <= 11);
        for (Class<?> one : inside) {
            check(one + " is not public, and static", !Modifier.isPublic(one.getModifiers())
                    && !Modifier.isProtected(one.getModifiers()) && Modifier.isStatic(one.getModifiers()));
            checkHiddenNames(one, publicNames);
        }
        System.out.println(wrong == 0 ? "the face is as told" : wrong + " wrong");
        if (wrong != 0) {
            System.exit(1);
        }
    }
}
