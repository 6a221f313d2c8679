import java.lang.reflect.Constructor;
import java.lang.reflect.Field;
import java.lang.reflect.Method;
import java.lang.reflect.Modifier;
import java.util.Arrays;
import java.util.List;
import java.util.Set;
import java.util.TreeSet;

/** The public face is the document's, and nothing else can be seen from outside. */
public final class FaceTest {
    private static final List<String> FACE = List.of(
            "int addPerson(int) IllegalArgumentException IllegalStateException",
            "int addWitness(int) IllegalArgumentException IllegalStateException",
            "int setHeir(int,int) IndexOutOfBoundsException IllegalArgumentException"
                    + " IllegalStateException",
            "int buyFate(int) IndexOutOfBoundsException IllegalStateException",
            "boolean turnDuty(int) IndexOutOfBoundsException",
            "int miss(int,int) IndexOutOfBoundsException IllegalArgumentException"
                    + " IllegalStateException",
            "int hit(int) IndexOutOfBoundsException IllegalStateException",
            "int pass(int) IllegalArgumentException",
            "int night()",
            "int persons()",
            "int alive()",
            "int witnesses()",
            "int shaken()",
            "int fund()",
            "int refunded()",
            "int misses()",
            "int certified()",
            "boolean isAlive(int) IndexOutOfBoundsException",
            "int luckOf(int) IndexOutOfBoundsException",
            "int purseOf(int) IndexOutOfBoundsException",
            "int fatesOf(int) IndexOutOfBoundsException",
            "int heirOf(int) IndexOutOfBoundsException",
            "int lastHeirOf(int) IndexOutOfBoundsException",
            "int priceFor(int) IndexOutOfBoundsException",
            "int missesOf(int) IndexOutOfBoundsException",
            "int closestOf(int) IndexOutOfBoundsException",
            "int nerveOf(int) IndexOutOfBoundsException",
            "boolean isOnDuty(int) IndexOutOfBoundsException",
            "int wouldTell(int,int) IndexOutOfBoundsException IllegalArgumentException",
            "int personOf(int) IndexOutOfBoundsException",
            "int inchesOf(int) IndexOutOfBoundsException",
            "int sealOf(int) IndexOutOfBoundsException",
            "int wouldCertify(int) IllegalArgumentException",
            "int wouldRefund(int,int) IndexOutOfBoundsException IllegalArgumentException",
            "int missesUntilShaken(int) IllegalArgumentException",
            "int nightsUntilCalm()",
            "int steadiest()",
            "int luckiest()",
            "double meanLuck()",
            "long digest()");

    public static void main(String[] args) {
        Check check = new Check();
        Class<MissRegistry> type = MissRegistry.class;
        check.same("modifiers", Modifier.PUBLIC | Modifier.FINAL, type.getModifiers());
        check.same("constructors", 1, type.getDeclaredConstructors().length);
        for (Constructor<?> made : type.getDeclaredConstructors()) {
            check.sameText("constructor", "public MissRegistry()", made.toString());
        }
        for (Field field : type.getDeclaredFields()) {
            check.same(field + " is private", true, Modifier.isPrivate(field.getModifiers()));
            check.same(field + " is a final constant or no static", true,
                    !Modifier.isStatic(field.getModifiers())
                            || Modifier.isFinal(field.getModifiers()));
        }
        checkMethods(check, type);
        check.end();
    }

    private static void checkMethods(Check check, Class<MissRegistry> type) {
        Set<String> due = new TreeSet<>(FACE);
        Set<String> found = new TreeSet<>();
        Set<String> publicNames = new TreeSet<>();
        for (Method method : type.getDeclaredMethods()) {
            if (!Modifier.isPrivate(method.getModifiers())) {
                check.same(method + " is public alone", Modifier.PUBLIC, method.getModifiers());
                found.add(written(method));
                publicNames.add(method.getName());
            }
        }
        for (Method method : type.getDeclaredMethods()) {
            if (Modifier.isPrivate(method.getModifiers())) {
                check.same(method + " bears a public one's name", false,
                        publicNames.contains(method.getName()));
            }
        }
        check.sameText("face", String.join("\n", due), String.join("\n", found));
    }

    private static String written(Method method) {
        StringBuilder text = new StringBuilder();
        text.append(method.getReturnType().getName()).append(' ').append(method.getName());
        String types = Arrays.toString(
                Arrays.stream(method.getParameterTypes()).map(Class::getName).toArray());
        text.append('(').append(types.substring(1, types.length() - 1).replace(" ", ""));
        text.append(')');
        for (Class<?> thrown : method.getExceptionTypes()) {
            text.append(' ').append(thrown.getSimpleName());
        }
        return text.toString();
    }
}
