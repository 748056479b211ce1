import java.io.File;
import java.io.IOException;
import java.lang.reflect.Method;
import java.lang.reflect.Modifier;
import java.nio.charset.StandardCharsets;
import java.nio.file.DirectoryStream;
import java.nio.file.Files;
import java.nio.file.Path;
import java.util.List;

/** What README.md says is so: its program prints what the page says, and no method or test is left out. */
public final class ReadmeTest {
    private static final Path PAGE = Path.of("README.md");
    private static final Path TESTS = Path.of("src", "test", "java");

    public static void main(String[] args) throws Exception {
        String page = Files.readString(PAGE, StandardCharsets.UTF_8).replace("\r\n", "\n");
        theProgramPrintsWhatThePageSays(page);
        everyMethodIsNamed(page);
        everyTestIsNamed(page);
        Check.end();
    }

    private static void theProgramPrintsWhatThePageSays(String page) throws Exception {
        List<String> due = block(page, "text").lines().toList();
        List<String> printed = outputOf(block(page, "java")).lines().toList();
        Check.yes("the page tells what its program prints", !due.isEmpty());
        Check.equal("the lines that README.md's program prints", due.size(), printed.size());
        for (int line = 0; line < Math.min(due.size(), printed.size()); line++) {
            Check.yes("README.md's program printed '" + printed.get(line) + "', due is '" + due.get(line) + "'",
                    printed.get(line).equals(due.get(line)));
        }
    }

    private static void everyMethodIsNamed(String page) {
        for (Method method : RoamLedger.class.getDeclaredMethods()) {
            if (Modifier.isPublic(method.getModifiers())) {
                Check.yes("README.md names the method " + method.getName(), page.contains("`" + method.getName() + "("));
            }
        }
    }

    private static void everyTestIsNamed(String page) throws IOException {
        try (DirectoryStream<Path> files = Files.newDirectoryStream(TESTS, "*Test.java")) {
            for (Path file : files) {
                String name = file.getFileName().toString().replace(".java", "");
                Check.yes("README.md names the test " + name, page.contains("| `" + name + "` |"));
            }
        }
    }

    /** The first block of the page in this language; empty if there is none. */
    private static String block(String page, String language) {
        String head = "```" + language + "\n";
        int begin = page.indexOf(head);
        int end = begin < 0 ? -1 : page.indexOf("```", begin + head.length());
        return end < 0 ? "" : page.substring(begin + head.length(), end);
    }

    /** What the class Example prints, compiled in a folder of its own, that is taken away again. */
    private static String outputOf(String program) throws Exception {
        Path folder = Files.createTempDirectory("readme");
        Path source = folder.resolve("Example.java");
        String classes = System.getProperty("java.class.path");
        try {
            Files.writeString(source, program);
            told("javac", "-cp", classes, "-d", folder.toString(), source.toString());
            return told("java", "-cp", classes + File.pathSeparator + folder, "Example");
        } finally {
            Files.deleteIfExists(folder.resolve("Example.class"));
            Files.deleteIfExists(source);
            Files.deleteIfExists(folder);
        }
    }

    /** Runs a command that must end well, and returns what it prints. */
    private static String told(String... command) throws Exception {
        Process process = new ProcessBuilder(command).redirectError(ProcessBuilder.Redirect.INHERIT).start();
        String printed = new String(process.getInputStream().readAllBytes(), StandardCharsets.UTF_8);
        Check.equal("the exit code of " + command[0] + " on README.md's program", 0, process.waitFor());
        return printed;
    }
}
