import java.io.IOException;
import java.nio.file.Files;
import java.nio.file.Path;
import java.util.Set;
import java.util.TreeSet;
import java.util.regex.Matcher;
import java.util.regex.Pattern;

/** LANGUAGE.md, rules 2 to 6 and 11 to 13, as far as the text of the program shows them. */
public final class LanguageTest {
    private static final Due due = new Due();
    private static final String[] FORBIDDEN = {
        "throw", "throws", "try", "catch", "finally", "synchronized", "assert", "goto", "volatile", "transient", "native",
        "hashCode", "toString", "getClass", "Thread", "Object", "var", "yield", "sealed", "permits", "protected"};
    private static final Set<String> LIBRARY = Set.of(
        "Arrays.fill", "System.arraycopy", "Math.max", "Math.min", "Math.floorDiv", "Math.floorMod",
        "Integer.bitCount", "Integer.MAX_VALUE", "Long.bitCount", "Long.numberOfTrailingZeros", "Long.MAX_VALUE");

    public static void main(String[] args) throws IOException {
        String text = Files.readString(Path.of("src/main/java/TileOffice.java"));
        for (int i = 0; i < text.length(); i++) {
            due.yes("sign " + i + " is plain", text.charAt(i) == '\n' || text.charAt(i) >= 32 && text.charAt(i) < 127);
        }
        String code = text.replaceAll("(?s)/\\*.*?\\*/", "").replaceAll("//[^\n]*", "");
        for (String word : FORBIDDEN) {
            due.no("the word " + word, Pattern.compile("\\b" + word + "\\b").matcher(code).find());
        }
        due.no("a lambda", code.contains("->"));
        due.no("a method reference", code.contains("::"));
        due.no("a package", Pattern.compile("^package ", Pattern.MULTILINE).matcher(code).find());
        imports(code);
        library(code);
        lengths(text);
        due.end("LanguageTest");
    }

    private static void imports(String code) {
        Matcher m = Pattern.compile("import ([^;]+);").matcher(code);
        while (m.find()) {
            due.yes("import " + m.group(1), Set.of("java.util.Arrays", "java.util.ArrayList", "java.util.List").contains(m.group(1)));
        }
    }

    private static void library(String code) {
        Matcher m = Pattern.compile("\\b(Arrays|System|Math|Integer|Long|String|Character|Boolean)\\.(\\w+)").matcher(code);
        while (m.find()) {
            due.yes("the library's " + m.group(), LIBRARY.contains(m.group()));
        }
        Set<String> own = new TreeSet<>();
        m = Pattern.compile("\\bclass (\\w+)").matcher(code);
        while (m.find()) {
            own.add(m.group(1));
        }
        m = Pattern.compile("\\bnew (\\w+)").matcher(code);
        while (m.find()) {
            due.yes("new " + m.group(1), own.contains(m.group(1)) || Set.of("int", "long", "boolean").contains(m.group(1)));
        }
    }

    // A method begins where a line opens a brace behind a round bracket at its own depth, and ends at that depth.
    private static void lengths(String text) {
        String[] lines = text.split("\n");
        for (int n = 0; n < lines.length; n++) {
            due.yes("line " + (n + 1) + " is not too long", lines[n].length() <= 130);
            String head = lines[n].strip();
            int depth = lines[n].length() - lines[n].stripLeading().length();
            boolean method = (depth == 4 || depth == 8) && head.endsWith(") {") && !head.matches("(if|for|while|switch|else)\\b.*");
            if (method) {
                int end = n;
                while (end < lines.length && !lines[end].equals(" ".repeat(depth) + "}")) {
                    end++;
                }
                due.yes("the method at line " + (n + 1) + " has " + (end - n) + " lines", end - n <= 60);
            }
        }
    }
}
