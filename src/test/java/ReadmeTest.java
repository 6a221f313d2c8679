import java.io.IOException;
import java.lang.reflect.Method;
import java.lang.reflect.Modifier;
import java.nio.file.Files;
import java.nio.file.Path;

/** What README.md shows is what the class answers. */
public final class ReadmeTest {
    private static final Check CHECK = new Check();
    private static String readme = "";

    public static void main(String[] args) throws IOException {
        readme = Files.readString(Path.of("README.md"));
        example();
        everyCallIsNamed();
        CHECK.end();
    }

    private static void example() {
        MissRegistry x = new MissRegistry();
        line("addPerson(50)", x.addPerson(50));
        line("addPerson(99)", x.addPerson(99));
        line("addWitness(9)", x.addWitness(9));
        line("setHeir(0, 1)", x.setHeir(0, 1));
        line("buyFate(0)", x.buyFate(0));
        line("wouldRefund(0, 20)", x.wouldRefund(0, 20));
        line("miss(0, 20)", x.miss(0, 20));
        line("purseOf(0)", x.purseOf(0));
        line("pass(3)", x.pass(3));
        line("hit(0)", x.hit(0));
        line("purseOf(1)", x.purseOf(1));
        line("luckiest()", x.luckiest());
        long shown = readme.lines().filter(each -> each.startsWith("registry.")).count();
        CHECK.same("lines of the example", 12, shown);
    }

    /** The answer stands behind the call, as a comment that may go on with ": ..". */
    private static void line(String call, int answer) {
        String start = "registry." + call + ";";
        boolean found = false;
        for (String each : readme.lines().toList()) {
            if (each.startsWith(start)) {
                String comment = each.substring(start.length()).strip();
                String due = "// " + answer;
                found = comment.equals(due) || comment.startsWith(due + ":");
            }
        }
        CHECK.same("README.md shows " + start + " answering " + answer, true, found);
    }

    private static void everyCallIsNamed() {
        for (Method method : MissRegistry.class.getDeclaredMethods()) {
            if (Modifier.isPublic(method.getModifiers())) {
                CHECK.same("README.md names " + method.getName(), true,
                        readme.contains("`" + method.getName() + "`"));
            }
        }
    }
}
