import java.lang.reflect.Constructor;
import java.lang.reflect.Field;
import java.lang.reflect.Method;
import java.lang.reflect.Modifier;
import java.util.Set;
import java.util.TreeSet;
import java.util.stream.Collectors;

/** The public face is the document's, and nothing of the class but its face is to be seen. */
public final class FaceTest {
    private static final String[] FACE = {
        "int car(long,int)", "int campaign(int,int)", "int wave(int,long,long,long)",
        "int due(int,long)", "int report(int,int,boolean)", "long share(int,int)",
        "int rule(int,long,long)", "int state(int)", "int stop(int)", "int consent(int,boolean)",
        "int failed(int)", "int in(int,int)", "int order(int,int)",
    };

    public static void main(String[] args) throws Exception {
        Check check = new Check();
        Set<String> found = new TreeSet<>();
        Set<String> publicNames = new TreeSet<>();
        for (Method method : FleetWaves.class.getDeclaredMethods()) {
            if (Modifier.isPublic(method.getModifiers())) {
                found.add(signature(method));
                publicNames.add(method.getName());
                check.that(method + " is static", Modifier.isStatic(method.getModifiers()) ? 1 : 0, 0);
            }
        }
        check.that("public methods " + found, found.equals(Set.of(FACE)) ? 1 : 0, 1);
        if (Doc.isThere()) {
            Set<String> told = Doc.face().stream().map(FaceTest::withoutNames).collect(Collectors.toSet());
            check.that("the document's methods " + told, told.equals(found) ? 1 : 0, 1);
        }
        for (Method method : FleetWaves.class.getDeclaredMethods()) {
            boolean isPublic = Modifier.isPublic(method.getModifiers());
            boolean isPrivate = Modifier.isPrivate(method.getModifiers());
            check.that(method + " is hidden", isPublic || isPrivate ? 1 : 0, 1);
            check.that(method + " has a name of its own",
                    isPrivate && publicNames.contains(method.getName()) ? 1 : 0, 0);
        }
        for (Field field : FleetWaves.class.getDeclaredFields()) {
            int modifiers = field.getModifiers();
            check.that(field + " is private", Modifier.isPrivate(modifiers) ? 1 : 0, 1);
            check.that(field + " is no static state",
                    Modifier.isStatic(modifiers) && !Modifier.isFinal(modifiers) ? 1 : 0, 0);
        }
        Constructor<?>[] constructors = FleetWaves.class.getDeclaredConstructors();
        check.that("constructors", constructors.length, 1);
        check.that("its parameters", constructors[0].getParameterCount(), 0);
        check.that("it is public", Modifier.isPublic(constructors[0].getModifiers()) ? 1 : 0, 1);
        check.that("final", Modifier.isFinal(FleetWaves.class.getModifiers()) ? 1 : 0, 1);
        Class<?>[] thrown = FleetWaves.class.getMethod("share", int.class, int.class).getExceptionTypes();
        check.that("share names its exception",
                thrown.length == 1 && thrown[0] == ArithmeticException.class ? 1 : 0, 1);
        check.end();
    }

    /** "int state(int campaign)" becomes "int state(int)". */
    private static String withoutNames(String line) {
        return line.replaceAll(" \\w+(?=[,)])", "").replaceAll(", ", ",").replaceAll("\\).*", ")");
    }

    private static String signature(Method method) {
        StringBuilder text = new StringBuilder(method.getReturnType().getName());
        text.append(' ').append(method.getName()).append('(');
        String comma = "";
        for (Class<?> type : method.getParameterTypes()) {
            text.append(comma).append(type.getName());
            comma = ",";
        }
        return text.append(')').toString();
    }
}
