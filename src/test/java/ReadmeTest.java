import java.io.IOException;
import java.nio.file.Files;
import java.nio.file.Path;
import java.util.ArrayList;
import java.util.List;
import java.util.stream.Stream;

/** The program that README.md shows, compiled and run by the lines that stand there, answers what stands behind its calls. */
public final class ReadmeTest extends Seas {
    private static final Path CLASS = Path.of("src/main/java/HungFromIce.java");

    public static void main(String[] args) throws IOException, InterruptedException {
        of("README.md");
        String readme = Files.readString(Path.of("README.md"));
        Path checkout = Files.createTempDirectory("readme");
        try {
            Files.createDirectories(checkout.resolve(CLASS).getParent());
            Files.copy(CLASS, checkout.resolve(CLASS));
            String program = block(readme, "java", 0);
            Files.writeString(checkout.resolve("Look.java"), program);
            compare(answersOf(program), linesOf(checkout, block(readme, "sh", 0)));
        } finally {
            remove(checkout);
        }
        due("how the tests are run is told", readme.contains("sh .ci/run") ? 1 : 0, 1);
        due("and stands there", Files.exists(Path.of(".ci/run")) ? 1 : 0, 1);
        for (String test : testsThatThereAre()) due(test + " is told of", readme.contains("`" + test + "`") ? 1 : 0, 1);
        end("README.md holds");
    }

    /** What stands between the marks of a block of that kind, or nothing. */
    private static String block(String readme, String kind, int from) {
        String mark = "```" + kind + "\n";
        int start = readme.indexOf(mark, from);
        int end = start < 0 ? -1 : readme.indexOf("```", start + mark.length());
        return end < 0 ? "" : readme.substring(start + mark.length(), end);
    }

    private static List<String> answersOf(String program) {
        List<String> answers = new ArrayList<>();
        for (String line : program.split("\n")) {
            int at = line.indexOf("// ");
            if (line.trim().startsWith("show(") && at >= 0) answers.add(line.substring(at + 3, line.indexOf(':', at)));
        }
        return answers;
    }

    private static List<String> linesOf(Path checkout, String commands) throws IOException, InterruptedException {
        Path printed = checkout.resolve("printed");
        Process run = new ProcessBuilder("sh", "-e", "-c", commands).directory(checkout.toFile())
            .redirectErrorStream(true).redirectOutput(printed.toFile()).start();
        due("exit code of " + commands, run.waitFor(), 0);
        return Files.readAllLines(printed);
    }

    private static void compare(List<String> want, List<String> got) {
        due("calls that are shown", want.size() > 9 ? 1 : 0, 1);
        due("lines that are printed", got.size(), want.size());
        for (int i = 0; i < want.size() && i < got.size(); i++) {
            due("line " + (i + 1) + " (" + got.get(i) + " for " + want.get(i) + ")", got.get(i).equals(want.get(i)) ? 1 : 0, 1);
        }
    }

    private static List<String> testsThatThereAre() throws IOException {
        try (Stream<Path> files = Files.list(Path.of("src/test/java"))) {
            return files.map(f -> f.getFileName().toString().replace(".java", "")).sorted().toList();
        }
    }

    private static void remove(Path root) throws IOException {
        try (Stream<Path> files = Files.walk(root)) {
            for (Path f : files.sorted((a, b) -> b.compareTo(a)).toList()) Files.delete(f);
        }
    }
}
