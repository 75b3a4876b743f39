import java.io.IOException;
import java.io.PrintWriter;
import java.io.StringWriter;
import java.net.URISyntaxException;
import java.nio.file.Files;
import java.nio.file.Path;
import java.util.ArrayList;
import java.util.List;
import java.util.TreeMap;
import java.util.TreeSet;
import java.util.regex.Matcher;
import java.util.regex.Pattern;
import java.util.spi.ToolProvider;
import java.util.stream.Stream;

/** What of LANGUAGE.md can be seen from the class's lines. */
public final class LanguageTest {
    private static final Due due = new Due();
    private static final String[] FORBIDDEN = {
        "\\bthrow\\b", "\\bthrows\\b", "\\btry\\b", "\\bcatch\\b", "\\bsynchronized\\b", "\\bassert\\b", "->", "::",
        "\\bpackage\\b", "\\bimport\\b", "static\\s*\\{", "\\w+Exact\\b", "\\bhashCode\\b", "\\btoString\\b",
        "\\bequals\\b", "\\bprotected\\b", "\\bThread\\b", "\\bRandom\\b", "\\bnanoTime\\b", "\\bdouble\\b",
        "\\bfloat\\b", "\\bvar\\b", "\\bgoto\\b", "\\bnative\\b", "\\bvolatile\\b"};

    /** Of what LANGUAGE.md lists, all that the class has had need of. */
    private static final String[] LIBRARY = {"java/lang/Object.<init>", "java/lang/Math.abs", "java/lang/Math.max",
        "java/lang/Integer.bitCount", "java/lang/System.arraycopy"};
    private static final int DEEPEST = 8;

    public static void main(String[] args) throws IOException, URISyntaxException {
        String source = Files.readString(Path.of("src/main/java/ClothMarket.java"));
        String code = source.replaceAll("(?s)/\\*.*?\\*/", "").replaceAll("//[^\n]*", "");
        for (String word : FORBIDDEN) {
            Matcher m = Pattern.compile(word).matcher(code);
            due.is("'" + word + "' in the class", m.find() ? 1 : 0, 0);
        }
        for (int i = 0; i < source.length(); i++) {
            if (source.charAt(i) > 126) {
                due.is("sign " + i + " of the class", source.charAt(i), 126);
            }
        }
        Matcher statics = Pattern.compile("(?m)^\\s*((?:private |public |final )*)static (?!class)([^(;={]*[=;])").matcher(code);
        while (statics.find()) {
            due.is("not final: " + statics.group(), Pattern.compile("\\bfinal\\b").matcher(statics.group()).find() ? 1 : 0, 1);
        }
        methodsAreShort(code);
        TreeMap<String, TreeSet<String>> calls = callsOfClass();
        callsAreShallow(calls);
        libraryIsListed(calls);
        due.end("LanguageTest");
    }

    /** By the compiled class: which of its methods calls which. */
    private static TreeMap<String, TreeSet<String>> callsOfClass() throws IOException, URISyntaxException {
        Path place = Path.of(ClothMarket.class.getProtectionDomain().getCodeSource().getLocation().toURI());
        TreeMap<String, TreeSet<String>> calls = new TreeMap<>();
        List<Path> files = new ArrayList<>();
        try (Stream<Path> all = Files.list(place)) {
            all.filter(f -> f.getFileName().toString().matches("ClothMarket(\\$\\w+)?\\.class")).forEach(files::add);
        }
        ToolProvider javap = ToolProvider.findFirst("javap").orElseThrow();
        for (Path file : files) {
            String owner = file.getFileName().toString().replace(".class", "");
            StringWriter text = new StringWriter();
            PrintWriter out = new PrintWriter(text);
            javap.run(out, out, "-c", "-p", file.toString());
            readCalls(owner, text.toString(), calls);
        }
        return calls;
    }

    private static void readCalls(String owner, String text, TreeMap<String, TreeSet<String>> calls) {
        Pattern head = Pattern.compile("^  (?! ).*?([\\w$]+)\\(.*\\);$");
        Pattern call = Pattern.compile("// (?:(?:Interface)?Method|InvokeDynamic) (?:([\\w$/]+|#\\d+)[.:])?\"?([\\w<>]+)\"?:");
        TreeSet<String> made = new TreeSet<>();
        for (String line : text.split("\\R")) {
            Matcher m = head.matcher(line);
            if (m.find()) {
                made = calls.computeIfAbsent(owner + "." + (m.group(1).equals(owner) ? "<init>" : m.group(1)), n -> new TreeSet<>());
            }
            m = call.matcher(line);
            if (m.find()) {
                made.add((m.group(1) == null ? owner : m.group(1)) + "." + m.group(2));
            }
        }
    }

    private static void libraryIsListed(TreeMap<String, TreeSet<String>> calls) {
        for (String name : calls.keySet()) {
            for (String called : calls.get(name)) {
                boolean fine = called.startsWith("ClothMarket") || List.of(LIBRARY).contains(called);
                due.is(name + " calls " + called, fine ? 1 : 0, 1);
            }
        }
    }

    private static void callsAreShallow(TreeMap<String, TreeSet<String>> calls) {
        due.is("methods are found", calls.size() > 100 ? 1 : 0, 1);
        for (String name : calls.keySet()) {
            int deep = depth(name, calls, 0);
            due.is(name + " and what it calls, " + deep + " deep", deep <= DEEPEST ? 1 : 0, 1);
        }
    }

    /** Recursion, of which the class has none, shows as a depth beyond all others. */
    private static int depth(String name, TreeMap<String, TreeSet<String>> calls, int above) {
        int below = 0;
        if (above < 40) {
            for (String called : calls.getOrDefault(name, new TreeSet<>())) {
                below = Math.max(below, depth(called, calls, above + 1));
            }
        }
        return below + 1;
    }

    private static void methodsAreShort(String code) {
        String[] lines = code.split("\n");
        int depthOfMethod = 0, begun = 0, depth = 0;
        String name = "";
        Pattern head = Pattern.compile("^\\s+(?:private |public |static |final )*[\\w\\[\\]]+ (\\w+)\\(([^)]*)\\) \\{$");
        for (int i = 0; i < lines.length; i++) {
            Matcher m = head.matcher(lines[i]);
            if (m.find() && !lines[i].contains("else if") && depthOfMethod == 0) {
                depthOfMethod = depth + 1;
                begun = i;
                name = m.group(1);
                int parameters = m.group(2).isEmpty() ? 0 : m.group(2).split(",").length;
                due.is(name + " has 7 parameters at most", parameters <= 7 ? 1 : 0, 1);
            }
            for (char c : lines[i].toCharArray()) {
                depth += c == '{' ? 1 : c == '}' ? -1 : 0;
            }
            if (depthOfMethod != 0 && depth < depthOfMethod) {
                due.is(name + " has 60 lines at most", i - begun < 60 ? 1 : 0, 1);
                depthOfMethod = 0;
            }
        }
    }
}
