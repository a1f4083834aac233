import java.io.File;
import java.io.IOException;
import java.lang.ProcessBuilder.Redirect;
import java.lang.reflect.Method;
import java.lang.reflect.Modifier;
import java.nio.file.Files;
import java.nio.file.Path;

/** README.md: its example, run as it stands, prints what it says, and it names every call and every test. */
public final class ReadmeTest {
    // Not beside README.md, where a user's own Example.java may lie.
    private static final Path EXAMPLE = Path.of("build", "readme", "Example.java");

    public static void main(String[] args) throws Exception {
        String readme = Files.readString(Path.of("README.md"));
        exampleAnswersAsSaid(readme);
        everyCallIsNamed(readme);
        everyTestIsNamed(readme);
        Check.end();
    }

    private static void exampleAnswersAsSaid(String readme) throws IOException, InterruptedException {
        String example = block(readme, "java");
        String commands = block(readme, "sh");
        String due = block(readme, "text");
        if (example.isEmpty() || commands.isEmpty() || due.isEmpty()) {
            Check.fail("README.md has no example, does not say how to run it, or not what it prints");
            return;
        }
        Files.createDirectories(EXAMPLE.getParent());
        Files.writeString(EXAMPLE, example);
        StringBuilder got = new StringBuilder();
        for (String command : commands.split("\n")) {
            got.append(run(command.replace(" Example.java", " " + EXAMPLE).split(" ")));
        }
        if (!due.contentEquals(got)) {
            Check.fail("the example prints\n" + got + "due is\n" + due);
        }
    }

    /** What stands in the first block of a kind, empty if there is none. */
    private static String block(String readme, String kind) {
        String head = "\n```" + kind + "\n";
        int begin = readme.indexOf(head);
        int end = readme.indexOf("\n```\n", begin + head.length() - 1);
        return begin < 0 || end < 0 ? "" : readme.substring(begin + head.length(), end + 1);
    }

    private static String run(String[] command) throws IOException, InterruptedException {
        Process process = new ProcessBuilder(command).redirectError(Redirect.INHERIT).start();
        String printed = new String(process.getInputStream().readAllBytes());
        int code = process.waitFor();
        return code == 0 ? printed : printed + "exit code " + code + "\n";
    }

    private static void everyCallIsNamed(String readme) {
        for (Method m : PriceHouse.class.getDeclaredMethods()) {
            if (Modifier.isPublic(m.getModifiers())) {
                named(readme, m.getName());
            }
        }
    }

    private static void everyTestIsNamed(String readme) {
        for (String name : new File("src/test/java").list()) {
            named(readme, name.replace(".java", ""));
        }
    }

    private static void named(String readme, String name) {
        if (!readme.contains("`" + name + "`")) {
            Check.fail("README.md does not name `" + name + "`");
        }
    }
}
