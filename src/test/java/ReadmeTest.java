import java.io.File;
import java.io.IOException;
import java.nio.charset.StandardCharsets;
import java.nio.file.Files;
import java.nio.file.Path;

/** The example of README.md, as it stands there, compiles and prints what README.md says. */
final class ReadmeTest {
    private static final String FENCE = "```";

    public static void main(String[] args) throws IOException, InterruptedException {
        String readme = Files.readString(Path.of("README.md"), StandardCharsets.UTF_8);
        String here = System.getProperty("java.class.path");
        Path place = Files.createTempDirectory("readme");
        Path source = place.resolve("Example.java");
        try {
            Files.writeString(source, block(readme, "java"));
            Probe.due("what javac prints", "",
                    answer("javac", "-Xlint:all", "-cp", here, "-d", place.toString(), source.toString()));
            Probe.due("what the example prints", block(readme, "text"),
                    answer("java", "-cp", here + File.pathSeparator + place, "Example"));
        } finally {
            Files.deleteIfExists(source);
            Files.deleteIfExists(place.resolve("Example.class"));
            Files.deleteIfExists(place);
        }
        Probe.finish();
    }

    /** The first block of README.md that is marked with a word. */
    private static String block(String readme, String mark) {
        int from = readme.indexOf(FENCE + mark + "\n");
        if (from < 0) {
            return "no block of " + mark;
        }
        from += FENCE.length() + mark.length() + 1;
        int to = readme.indexOf(FENCE, from);
        return to < 0 ? "no end of " + mark : readme.substring(from, to);
    }

    /** What a program prints, and its exit code unless that is 0; what it complains of goes to our own errors. */
    private static String answer(String... command) throws IOException, InterruptedException {
        Process process = new ProcessBuilder(command).redirectError(ProcessBuilder.Redirect.INHERIT).start();
        String said = new String(process.getInputStream().readAllBytes(), StandardCharsets.UTF_8);
        int exit = process.waitFor();
        return exit == 0 ? said : said + "exit " + exit;
    }
}
