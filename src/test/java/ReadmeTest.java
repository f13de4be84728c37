import java.io.IOException;
import java.nio.charset.StandardCharsets;
import java.nio.file.Files;
import java.nio.file.Path;
import java.nio.file.StandardCopyOption;
import java.util.ArrayList;
import java.util.List;

/** README.md: its example, its commands and its output as they are printed there, and the tests that it names. */
public final class ReadmeTest {
    private static final Path ROOM = Path.of("build/readme");
    private static final Path CLASS = Path.of("src/main/java/SnowDispatcher.java");

    public static void main(String[] args) throws IOException, InterruptedException {
        String readme = Files.readString(Path.of("README.md"));
        exampleWorksAsPrinted(readme);
        everyTestIsNamed(readme);
        everyCommandIsRight(readme);
        Check.end();
    }

    private static void exampleWorksAsPrinted(String readme) throws IOException, InterruptedException {
        Files.createDirectories(ROOM.resolve(CLASS).getParent());
        Files.copy(CLASS, ROOM.resolve(CLASS), StandardCopyOption.REPLACE_EXISTING);
        Files.writeString(ROOM.resolve("Example.java"), block(readme, "java"));
        Process process = new ProcessBuilder("sh", "-e", "-c", block(readme, "sh"))
                .directory(ROOM.toFile()).redirectErrorStream(true).start();
        process.getOutputStream().close();
        String got = new String(process.getInputStream().readAllBytes(), StandardCharsets.UTF_8);
        Check.is("README: the commands end with", 0, process.waitFor());
        Check.is("README: the example prints", block(readme, "text"), got);
    }

    /** The lines of the only block of this kind. */
    private static String block(String readme, String kind) {
        String start = "\n```" + kind + "\n";
        int from = readme.indexOf(start);
        Check.is("README: one block of " + kind, true, from >= 0 && from == readme.lastIndexOf(start));
        if (from < 0) {
            return "";
        }
        int first = from + start.length();
        return readme.substring(first, readme.indexOf("```", first));
    }

    private static void everyTestIsNamed(String readme) throws IOException {
        for (String name : tests()) {
            Check.is("README names " + name, true, readme.contains("`" + name + "`"));
        }
    }

    private static List<String> tests() throws IOException {
        List<String> names = new ArrayList<>();
        try (var files = Files.newDirectoryStream(Path.of("src/test/java"), "*Test.java")) {
            for (Path file : files) {
                names.add(file.getFileName().toString().replace(".java", ""));
            }
        }
        return names;
    }

    /** The commands of a script that README lists, in a dispatcher in which each of them can be carried out. */
    private static void everyCommandIsRight(String readme) {
        int from = readme.indexOf("The commands of a script are");
        int to = readme.indexOf("with a semicolon", from);
        Check.is("README lists the commands", true, from >= 0 && to > from);
        String[] pieces = readme.substring(from, Math.max(from, to)).split("`");
        Check.is("README lists nine commands", 9, pieces.length / 2);
        for (int piece = 1; piece < pieces.length; piece += 2) {
            SnowDispatcher d = new SnowDispatcher();
            d.addStreet(2, 3, 'b', 1);
            d.addStreet(3, 4, 'b', 1);
            d.addPlough(2);
            d.order(0, 1);
            d.loadSalt(1);
            Check.is("README: " + pieces[piece], 1, Towns.run(d, pieces[piece]));
        }
    }
}
