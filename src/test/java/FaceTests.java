import java.lang.reflect.Constructor;
import java.lang.reflect.Field;
import java.lang.reflect.Method;
import java.lang.reflect.Modifier;
import java.util.Arrays;
import java.util.TreeSet;

/** The class shows the document's face and nothing else. */
final class FaceTests {
    private static final String[] FACE = {
        "int setLength(int) IllegalArgumentException IllegalStateException",
        "int lay(int,int,int) IllegalArgumentException IllegalStateException",
        "int ground(int,boolean) IllegalArgumentException",
        "int addTeam(int,int,int) IllegalArgumentException IllegalStateException",
        "int setCrew(int,int,int,int,int) IndexOutOfBoundsException IllegalArgumentException IllegalStateException",
        "int order(int,int,int) IndexOutOfBoundsException IllegalArgumentException",
        "int run(int) IllegalArgumentException IllegalStateException",
        "int restart()",
        "int count(int) IndexOutOfBoundsException",
        "int team(int,int) IndexOutOfBoundsException",
        "int roller(int,int) IndexOutOfBoundsException IllegalStateException",
        "int next(int,int) IndexOutOfBoundsException",
        "int ranked(int) IndexOutOfBoundsException",
        "int foresee(int,int,int) IndexOutOfBoundsException IllegalArgumentException",
        "int advise(int,int) IndexOutOfBoundsException IllegalArgumentException",
        "double mean()",
        "long digest()"
    };

    static void check(Checks checks) {
        checks.begin("face");
        TreeSet<String> shown = new TreeSet<>();
        TreeSet<String> publicNames = new TreeSet<>();
        TreeSet<String> privateNames = new TreeSet<>();
        for (Method each : SledgeRace.class.getDeclaredMethods()) {
            if (Modifier.isPrivate(each.getModifiers()) || each.isSynthetic()) {
                privateNames.add(each.getName());
            } else {
                shown.add(written(each));
                publicNames.add(each.getName());
            }
        }
        checks.same("methods", shown.toString(), new TreeSet<>(Arrays.asList(FACE)).toString());
        privateNames.retainAll(publicNames);
        checks.same("private methods with a public name", privateNames.toString(), "[]");
        int open = 0;
        for (Field each : SledgeRace.class.getDeclaredFields()) {
            open += Modifier.isPrivate(each.getModifiers()) ? 0 : 1;
        }
        checks.same("fields that are not private", open, 0);
        Constructor<?>[] constructors = SledgeRace.class.getDeclaredConstructors();
        checks.same("constructors", constructors.length, 1);
        checks.same("constructor", constructors[0].toString(), "public SledgeRace()");
        checks.same("class", Modifier.toString(SledgeRace.class.getModifiers()), "public final");
    }

    private static String written(Method method) {
        StringBuilder text = new StringBuilder();
        text.append(method.getReturnType().getSimpleName()).append(' ').append(method.getName());
        text.append('(');
        for (Class<?> each : method.getParameterTypes()) {
            text.append(text.charAt(text.length() - 1) == '(' ? "" : ",").append(each.getSimpleName());
        }
        text.append(')');
        for (Class<?> each : method.getExceptionTypes()) {
            text.append(' ').append(each.getSimpleName());
        }
        return text.toString();
    }
}
