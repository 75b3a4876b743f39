import java.io.IOException;
import java.io.PrintWriter;
import java.net.URISyntaxException;
import java.net.URL;
import java.net.URLClassLoader;
import java.nio.file.Files;
import java.nio.file.Path;
import java.util.ArrayList;
import java.util.List;
import java.util.TreeSet;
import java.util.function.BiConsumer;
import java.util.regex.Matcher;
import java.util.regex.Pattern;
import java.util.spi.ToolProvider;
import java.util.stream.Stream;

/** What README.md tells to call answers what it says, and what it tells to run, runs. */
public final class ReadmeTest {
    private static final Due due = new Due();
    private static final Path README = Path.of("README.md");
    private static final String RUNS_ALL = ".ci/run";
    /** A call, its answer, and perhaps what asked() tells. */
    private static final Pattern CALL = Pattern.compile("^(x\\..*\\)); +// (-?\\d+|[A-Z]+)(?:, asked\\(\\) (-?\\d+))?(?::.*)?$");

    public static void main(String[] args) throws Exception {
        String page = Files.readString(README);
        holdCalls(blocks(page, "java"));
        runCommands(blocks(page, "sh"));
        namesAreThere(page);
        due.end("ReadmeTest");
    }

    private static List<String> blocks(String page, String of) {
        List<String> all = new ArrayList<>();
        Matcher m = Pattern.compile("(?s)```" + of + "\n(.*?)```").matcher(page);
        while (m.find()) {
            all.add(m.group(1));
        }
        due.is("blocks of " + of, all.isEmpty() ? 0 : 1, 1);
        return all;
    }

    /** All calls of the page are made one behind the other. */
    private static void holdCalls(List<String> blocks) throws Exception {
        StringBuilder code = new StringBuilder("public final class ReadmeCalls {\n"
            + "public static void make(java.util.function.BiConsumer<String, long[]> told) {\n");
        for (String block : blocks) {
            for (String line : block.split("\n")) {
                code.append(codeOf(line)).append('\n');
            }
        }
        code.append("}\n}\n");
        Path place = Files.createTempDirectory("readme");
        Path file = Files.writeString(place.resolve("ReadmeCalls.java"), code);
        int wrong = javac("-cp", placeOfClasses(), "-d", place.toString(), file.toString());
        due.is("the page's calls compile", wrong, 0);
        if (wrong == 0) {
            make(place);
        }
        remove(place);
    }

    private static String codeOf(String line) {
        Matcher m = CALL.matcher(line);
        if (!m.matches()) {
            due.is("an answer is told another way: " + line, line.contains("//") ? 1 : 0, 0);
            return line;
        }
        String answer = m.group(2).matches("[A-Z]+") ? "ClothMarket." + m.group(2) : m.group(2);
        String told = "told.accept(\"" + m.group(1) + "\", new long[] {" + m.group(1) + ", " + answer + "});";
        return m.group(3) == null ? told
            : told + " told.accept(\"asked() behind " + m.group(1) + "\", new long[] {x.asked(), " + m.group(3) + "});";
    }

    private static void make(Path place) throws Exception {
        int[] made = new int[1];
        BiConsumer<String, long[]> told = (call, answers) -> {
            due.is(call, answers[0], answers[1]);
            made[0]++;
        };
        try (URLClassLoader calls = new URLClassLoader(new URL[] {place.toUri().toURL()})) {
            calls.loadClass("ReadmeCalls").getMethod("make", BiConsumer.class).invoke(null, told);
        }
        due.is("answers are told", made[0] > 20 ? 1 : 0, 1);
    }

    /** But for the one that runs this test. */
    private static void runCommands(List<String> blocks) throws IOException, InterruptedException {
        for (String block : blocks) {
            if (block.strip().equals(RUNS_ALL)) {
                due.is(RUNS_ALL + " can be run", Files.isExecutable(Path.of(RUNS_ALL)) ? 1 : 0, 1);
            } else {
                Process run = new ProcessBuilder("sh", "-e", "-c", block).redirectErrorStream(true).start();
                String words = new String(run.getInputStream().readAllBytes());
                int end = run.waitFor();
                due.is("what is to be run: " + block + words, end, 0);
            }
        }
    }

    /** Every test is told of, and what is told of is there. */
    private static void namesAreThere(String page) throws IOException {
        TreeSet<String> told = new TreeSet<>();
        Matcher m = Pattern.compile("`(\\w+(?:Test|Model))`").matcher(page);
        while (m.find()) {
            told.add(m.group(1));
        }
        try (Stream<Path> files = Files.list(Path.of("src/test/java"))) {
            for (Path file : files.toList()) {
                String name = file.getFileName().toString().replace(".java", "");
                if (name.endsWith("Test") && !name.endsWith("EdgesTest")) {
                    due.is("the page tells of " + name, told.contains(name) ? 1 : 0, 1);
                }
                told.remove(name);
            }
        }
        due.is("told of, but not there: " + told, told.size(), 0);
    }

    private static int javac(String... args) {
        PrintWriter out = new PrintWriter(System.out, true);
        return ToolProvider.findFirst("javac").orElseThrow().run(out, out, args);
    }

    private static String placeOfClasses() throws URISyntaxException {
        return Path.of(ClothMarket.class.getProtectionDomain().getCodeSource().getLocation().toURI()).toString();
    }

    private static void remove(Path place) throws IOException {
        try (Stream<Path> files = Files.list(place)) {
            for (Path file : files.toList()) {
                Files.delete(file);
            }
        }
        Files.delete(place);
    }
}
