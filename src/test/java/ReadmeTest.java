import java.io.IOException;
import java.lang.reflect.Method;
import java.lang.reflect.Modifier;
import java.nio.file.DirectoryStream;
import java.nio.file.Files;
import java.nio.file.Path;

/** README.md's example runs and prints what stands below it; every call and every test is named there. */
public final class ReadmeTest {
    private static final Path README = Path.of("README.md");
    private static final Path TESTS = Path.of("src/test/java");

    public static void main(String[] args) throws IOException, InterruptedException {
        String readme = Files.readString(README);
        exampleRuns(block(readme, "```java\n"), block(readme, "```text\n"));
        callsAreNamed(readme);
        testsAreNamed(readme);
        Due.end();
    }

    private static String block(String readme, String fence) {
        int begin = readme.indexOf(fence);
        int end = begin < 0 ? -1 : readme.indexOf("```", begin + fence.length());
        Due.is("README.md has a block " + fence.trim(), end >= 0, true);
        return end < 0 ? "" : readme.substring(begin + fence.length(), end);
    }

    private static void exampleRuns(String example, String told) throws IOException, InterruptedException {
        Path directory = Files.createTempDirectory("readme");
        Path source = directory.resolve("Example.java");
        try {
            Files.writeString(source, example);
            Process process = new ProcessBuilder(Path.of(System.getProperty("java.home"), "bin", "java").toString(),
                    "-cp", System.getProperty("java.class.path"), source.toString()).redirectErrorStream(true).start();
            String printed = new String(process.getInputStream().readAllBytes()).replace("\r", "");
            Due.is("the example's exit code", process.waitFor(), 0);
            Due.is("the example printed\n" + printed + "README.md tells it so", printed.equals(told), true);
        } finally {
            Files.deleteIfExists(source);
            Files.deleteIfExists(directory);
        }
    }

    private static void callsAreNamed(String readme) {
        for (Method method : RopeRace.class.getDeclaredMethods()) {
            if (Modifier.isPublic(method.getModifiers())) {
                Due.is("README.md names the call " + method.getName(),
                        readme.contains("`" + method.getName() + "("), true);
            }
        }
    }

    private static void testsAreNamed(String readme) throws IOException {
        try (DirectoryStream<Path> files = Files.newDirectoryStream(TESTS, "*.java")) {
            for (Path file : files) {
                String name = file.getFileName().toString().replace(".java", "");
                Due.is("README.md names " + name, readme.contains("`" + name + "`"), true);
            }
        }
    }
}
