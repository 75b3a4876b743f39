import java.io.IOException;
import java.nio.file.Files;
import java.nio.file.Path;
import java.util.regex.Matcher;
import java.util.regex.Pattern;

/** What of LANGUAGE.md can be seen from the class's lines. */
public final class LanguageTest {
    private static final Due due = new Due();
    private static final String[] FORBIDDEN = {
        "\\bthrow\\b", "\\bthrows\\b", "\\btry\\b", "\\bcatch\\b", "\\bsynchronized\\b", "\\bassert\\b", "->", "::",
        "\\bpackage\\b", "\\bimport\\b", "static\\s*\\{", "\\w+Exact\\b", "\\bhashCode\\b", "\\btoString\\b",
        "\\bequals\\b", "\\bprotected\\b", "\\bThread\\b", "\\bRandom\\b", "\\bnanoTime\\b", "\\bdouble\\b",
        "\\bfloat\\b", "\\bvar\\b", "\\bgoto\\b", "\\bnative\\b", "\\bvolatile\\b"};

    public static void main(String[] args) throws IOException {
        String source = Files.readString(Path.of("src/main/java/ClothMarket.java"));
        String code = source.replaceAll("(?s)/\\*.*?\\*/", "").replaceAll("//[^\n]*", "");
        for (String word : FORBIDDEN) {
            Matcher m = Pattern.compile(word).matcher(code);
            due.is("'" + word + "' in the class", m.find() ? 1 : 0, 0);
        }
        for (int i = 0; i < source.length(); i++) {
            if (source.charAt(i) > 126) {
                due.is("sign " + i + " of the class", source.charAt(i), 126);
            }
        }
        Matcher statics = Pattern.compile("(?m)^\\s*((?:private |public |final )*)static (?!class)([^(;={]*[=;])").matcher(code);
        while (statics.find()) {
            due.is("not final: " + statics.group(), Pattern.compile("\\bfinal\\b").matcher(statics.group()).find() ? 1 : 0, 1);
        }
        methodsAreShort(code);
        due.end("LanguageTest");
    }

    private static void methodsAreShort(String code) {
        String[] lines = code.split("\n");
        int depthOfMethod = 0, begun = 0, depth = 0;
        String name = "";
        Pattern head = Pattern.compile("^\\s+(?:private |public |static |final )*[\\w\\[\\]]+ (\\w+)\\(([^)]*)\\) \\{$");
        for (int i = 0; i < lines.length; i++) {
            Matcher m = head.matcher(lines[i]);
            if (m.find() && !lines[i].contains("else if") && depthOfMethod == 0) {
                depthOfMethod = depth + 1;
                begun = i;
                name = m.group(1);
                int parameters = m.group(2).isEmpty() ? 0 : m.group(2).split(",").length;
                due.is(name + " has 7 parameters at most", parameters <= 7 ? 1 : 0, 1);
            }
            for (char c : lines[i].toCharArray()) {
                depth += c == '{' ? 1 : c == '}' ? -1 : 0;
            }
            if (depthOfMethod != 0 && depth < depthOfMethod) {
                due.is(name + " has 60 lines at most", i - begun < 60 ? 1 : 0, 1);
                depthOfMethod = 0;
            }
        }
    }
}
