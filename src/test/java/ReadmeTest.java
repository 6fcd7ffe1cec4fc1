import java.io.IOException;
import java.nio.charset.StandardCharsets;
import java.nio.file.Files;
import java.nio.file.Path;

/** README.md: the program that it shows prints what it says; run from the project's directory. */
public final class ReadmeTest {
    private static final String FENCE = "```";

    public static void main(String[] args) throws IOException, InterruptedException {
        String readme = Files.readString(Path.of("README.md"));
        Path directory = Files.createTempDirectory("readme");
        Path program = directory.resolve("Example.java");
        Files.writeString(program, block(readme, "java"));
        String printed = printedBy(program);
        Files.delete(program);
        Files.delete(directory);
        String said = block(readme, "text");
        Check.dueTrue("README's program prints\n" + printed + "and README says\n" + said,
                !said.isEmpty() && printed.equals(said));
        Check.end();
    }

    /** The first block of that kind, empty if there is none. */
    private static String block(String readme, String kind) {
        String opening = FENCE + kind + "\n";
        int begin = readme.indexOf(opening);
        int end = readme.indexOf(FENCE, begin + opening.length());
        return begin < 0 || end < 0 ? "" : readme.substring(begin + opening.length(), end);
    }

    private static String printedBy(Path program) throws IOException, InterruptedException {
        String java = Path.of(System.getProperty("java.home"), "bin", "java").toString();
        Process process = new ProcessBuilder(java, "-cp", System.getProperty("java.class.path"), program.toString())
                .redirectErrorStream(true).start();
        String printed = new String(process.getInputStream().readAllBytes(), StandardCharsets.UTF_8);
        Check.due("exit code of README's program", process.waitFor(), 0);
        return printed;
    }
}
