import java.io.IOException;
import java.lang.reflect.Method;
import java.lang.reflect.Modifier;
import java.nio.file.Files;
import java.nio.file.Path;
import java.util.ArrayList;
import java.util.Comparator;
import java.util.List;
import java.util.stream.Stream;

/** README.md alone must do for a reader: its commands run, its program answers as it says, and nothing is left out. */
public final class ReadmeTest {
    /** Runs this test too, so it can't be run by it. */
    private static final String ALL_TESTS = ".ci/run";
    private static int wrong = 0;

    private static void refuse(String why) {
        wrong++;
        System.out.println("README.md: " + why);
    }

    /** What stands between the fences of a language, one block behind the other. */
    private static List<String> blocks(String page, String language) {
        List<String> found = new ArrayList<>();
        String fence = "\n```" + language + "\n";
        for (int at = page.indexOf(fence); at >= 0; at = page.indexOf(fence, at + 1)) {
            int from = at + fence.length();
            found.add(page.substring(from, page.indexOf("```", from)));
        }
        return found;
    }

    private static Stream<Path> under(Path folder) throws IOException {
        return Files.walk(folder).sorted();
    }

    /** A folder as a reader has it who has just got the project and the document. */
    private static Path freshProject(Path room) throws IOException {
        Path project = room.resolve("project");
        for (Path path : under(Path.of("src")).toList()) {
            Path copy = project.resolve(path);
            if (Files.isDirectory(path)) Files.createDirectories(copy);
            else Files.copy(path, copy);
        }
        Files.createSymbolicLink(room.resolve("shared"), Path.of("../shared").toRealPath());
        return project;
    }

    private static String run(Path folder, String command) throws IOException, InterruptedException {
        Process process = new ProcessBuilder(command.split(" ")).directory(folder.toFile()).redirectErrorStream(true).start();
        String output = new String(process.getInputStream().readAllBytes());
        if (process.waitFor() != 0) refuse(command + " does not end with 0:\n" + output);
        return output;
    }

    private static void runCommands(String page, Path project) throws IOException, InterruptedException {
        List<String> programs = blocks(page, "java");
        List<String> answers = blocks(page, "text");
        if (programs.size() != 1 || answers.size() != 1) {
            refuse("it needs one program and what it answers");
            return;
        }
        Files.writeString(project.resolve("Example.java"), programs.get(0));
        boolean allTests = false;
        boolean shown = false;
        for (String line : String.join("", blocks(page, "sh")).split("\n")) {
            if (line.equals(ALL_TESTS)) {
                allTests = true;
                continue;
            }
            String output = run(project, line);
            if (line.endsWith(" Example")) {
                shown = true;
                if (!output.equals(answers.get(0))) refuse("the program does not answer as it says, but:\n" + output);
            }
        }
        if (!allTests) refuse("it does not say how all tests are run");
        if (!shown) refuse("it does not say how its program is run");
    }

    private static void needsAllNames(String page, String program) throws IOException {
        for (Method method : DownByAHair.class.getDeclaredMethods()) {
            if (!Modifier.isPublic(method.getModifiers())) continue;
            if (!page.contains("`" + method.getName() + "`")) refuse("it does not name " + method.getName());
            if (!program.contains("x." + method.getName() + "(")) refuse("its program does not call " + method.getName());
        }
        for (Path path : under(Path.of("src/test/java")).toList()) {
            String name = path.getFileName().toString().replace(".java", "");
            if (name.endsWith("Test") && !page.contains("\n- `" + name + "`: ")) refuse("it does not tell of " + name);
        }
    }

    private static void clear(Path room) throws IOException {
        for (Path path : under(room).sorted(Comparator.reverseOrder()).toList()) Files.delete(path);
    }

    public static void main(String[] args) throws IOException, InterruptedException {
        String page = Files.readString(Path.of("README.md"));
        Path room = Files.createTempDirectory("readme");
        try {
            runCommands(page, freshProject(room));
        } finally {
            clear(room);
        }
        needsAllNames(page, String.join("", blocks(page, "java")));
        System.out.println(wrong == 0 ? "README.md does as it says" : wrong + " things are wrong in README.md");
        if (wrong != 0) System.exit(1);
    }
}
