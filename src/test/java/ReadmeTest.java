import java.io.IOException;
import java.lang.reflect.Method;
import java.lang.reflect.Modifier;
import java.nio.charset.StandardCharsets;
import java.nio.file.Files;
import java.nio.file.Path;
import java.util.ArrayList;
import java.util.List;
import java.util.stream.Stream;

/** README.md holds what it says; run from the directory in which it stands, as .ci/run does. */
public final class ReadmeTest {
    public static void main(String[] args) throws Exception {
        String page = Files.readString(Path.of("README.md"));
        namesEachCall(page);
        namesEachTest(page);
        exampleHolds(page);
        Check.finish();
    }

    private static void namesEachCall(String page) {
        Check.part("README.md, the calls");
        for (Method m : PegBands.class.getDeclaredMethods()) {
            if (Modifier.isPublic(m.getModifiers())) {
                Check.due(m.getName() + "() is told", page.contains("`" + m.getName() + "("), true);
            }
        }
    }

    private static void namesEachTest(String page) throws IOException {
        Check.part("README.md, the tests");
        List<String> names = new ArrayList<>();
        try (Stream<Path> files = Files.list(Path.of("src/test/java"))) {
            files.map(file -> file.getFileName().toString())
                .filter(name -> name.endsWith("Test.java"))
                .forEach(name -> names.add(name.substring(0, name.length() - ".java".length())));
        }
        for (String name : names) {
            Check.due(name + " is told", page.contains("| " + name + " |"), true);
        }
        for (String line : page.split("\n")) {
            if (line.matches("\\| \\w+Test \\|.*")) {
                String name = line.substring(2, line.indexOf(' ', 2));
                Check.due(name + " is there", names.contains(name), true);
            }
        }
    }

    private static void exampleHolds(String page) throws Exception {
        Check.part("README.md, the program");
        Path home = Files.createTempDirectory("readme");
        Path source = home.resolve("Farm.java");
        Files.writeString(source, block(page, "java"));
        printedBy("javac", "-Xlint:all", "-Werror", "-d", home.toString(), "src/main/java/PegBands.java",
            source.toString());
        Check.due("what Farm prints", printedBy("java", "-cp", home.toString(), "Farm"), block(page, "text"));
        try (Stream<Path> files = Files.list(home)) {
            files.forEach(file -> file.toFile().delete());
        }
        Files.delete(home);
    }

    /** What stands between the first fences of a kind. */
    private static String block(String page, String kind) {
        String fence = "```" + kind + "\n";
        int from = page.indexOf(fence);
        int to = from < 0 ? -1 : page.indexOf("```", from + fence.length());
        Check.due("there is a block of " + kind, to > 0, true);
        return to > 0 ? page.substring(from + fence.length(), to) : "";
    }

    private static String printedBy(String... command) throws Exception {
        Process process = new ProcessBuilder(command).redirectError(ProcessBuilder.Redirect.INHERIT).start();
        String printed = new String(process.getInputStream().readAllBytes(), StandardCharsets.UTF_8);
        Check.due(command[0] + " ends with", process.waitFor(), 0);
        return printed.replace(System.lineSeparator(), "\n");
    }
}
