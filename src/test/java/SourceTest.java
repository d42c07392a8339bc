import java.io.IOException;
import java.nio.file.Files;
import java.nio.file.Path;
import java.util.Set;
import java.util.regex.Matcher;
import java.util.regex.Pattern;

/** What ../shared/LANGUAGE.md rules out and a search of the source can find; it runs in the project's folder. */
public final class SourceTest {
    private static final Set<String> FORBIDDEN = Set.of("package", "import", "throw", "throws", "try", "catch",
            "finally", "synchronized", "assert", "volatile", "transient", "native", "instanceof", "protected",
            "Object", "Exception", "Thread", "Random", "var", "yield", "float", "double");
    private static final Set<String> LIBRARY = Set.of("Math.abs", "Math.min", "Math.max", "Integer.bitCount",
            "System.arraycopy");

    public static void main(String[] args) throws IOException {
        String source = Files.readString(Path.of("src/main/java/CostumeStock.java"));
        Due.holds("all signs are 10 or 32 to 126", source.chars().allMatch(c -> c == 10 || c >= 32 && c <= 126));
        String code = source.replaceAll("(?s)/\\*.*?\\*/", "").replaceAll("//[^\n]*", "")
                .replaceAll("\"[^\"]*\"", "\"\"");
        Matcher word = Pattern.compile("[A-Za-z_]\\w*").matcher(code);
        while (word.find()) {
            Due.holds("no word " + word.group(), !FORBIDDEN.contains(word.group()));
        }
        Matcher call = Pattern.compile("\\b(Math|Integer|System|Long|Arrays|List|String|StringBuilder)\\.\\w+")
                .matcher(code);
        while (call.find()) {
            Due.holds("the library has " + call.group(), LIBRARY.contains(call.group()));
        }
        Due.holds("no lambda and no method reference", !code.contains("->") && !code.contains("::"));
        checkLengths(code);
        Due.finish("SourceTest");
    }

    /** Members of the class stand four columns in, those of its inner classes eight. */
    private static void checkLengths(String code) {
        Matcher method = Pattern.compile("(?m)^( {4}| {8})\\w[^;={}\n]*\\([^;{}]*\\) \\{\n(?s:(.*?))^\\1\\}").matcher(code);
        int methods = 0;
        while (method.find()) {
            methods++;
            long lines = method.group(2).lines().count();
            Due.holds("a method of " + lines + " lines: " + method.group().lines().findFirst().orElse(""), lines <= 60);
        }
        Due.holds("methods are found: " + methods, methods > 80);
    }
}
