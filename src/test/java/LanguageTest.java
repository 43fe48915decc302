import java.io.IOException;
import java.nio.file.Files;
import java.nio.file.Path;
import java.util.regex.Matcher;
import java.util.regex.Pattern;

/** Rules of LANGUAGE.md that can be seen in the text of the program. */
public final class LanguageTest {
    private static final Due DUE = new Due("LanguageTest");
    private static final String[] RULED_OUT = {
        "package", "throw", "throws", "try", "catch", "finally", "synchronized", "assert", "volatile", "native",
        "protected", "default\\s*->", "->", "::", "yield", "var", "Object", "System\\.(?!arraycopy\\b)\\w+", "Random",
        "Thread", "\\w+Exact", "hashCode", "toString", "double", "float", "new\\s+\\w+\\s*\\([^)]*\\)\\s*\\{",
        "String\\.\\w+", "static\\s*\\{", "@\\w+"};

    public static void main(String[] args) throws IOException {
        String text = Files.readString(Path.of("src/main/java/IceByEar.java"));
        DUE.holds("signs 1 to 127 alone", text.chars().allMatch(c -> c >= 1 && c <= 127));
        String bare = bare(text);
        for (String word : RULED_OUT) {
            String edge = Character.isLetter(word.charAt(0)) ? "\\b" : "";
            Matcher found = Pattern.compile(edge + word + edge.replace("\\b", "(?!\\w)")).matcher(bare);
            DUE.holds("no " + word + (found.find() ? " as in '" + found.group() + "'" : ""), !found.find(0));
        }
        DUE.holds("nothing is brought in but java.util.Arrays",
            bare.replace("import java.util.Arrays;", "").indexOf("import") < 0);
        methodsAreShort(bare);
        DUE.end();
    }

    private static String bare(String text) {
        String noComments = Pattern.compile("/\\*.*?\\*/", Pattern.DOTALL).matcher(text).replaceAll("");
        return noComments.replaceAll("//[^\n]*", "").replaceAll("\"[^\"\n]*\"", "\"\"");
    }

    private static void methodsAreShort(String bare) {
        Matcher head = Pattern.compile("(?m)^( +)[\\w\\[\\]. ]*?\\b(\\w+)\\(([^()]*)\\) \\{$").matcher(bare);
        int methods = 0;
        while (head.find()) {
            if (head.group().matches("\\s*(if|for|while|switch|\\}|else|do)\\b.*")) {
                continue;
            }
            methods++;
            int end = bare.indexOf("\n" + head.group(1) + "}", head.end());
            DUE.holds(head.group(2) + " has an end", end > 0);
            DUE.holds(head.group(2) + " is short", bare.substring(head.end(), end).split("\n").length <= 60);
            DUE.holds(head.group(2) + " takes few", head.group(3).split(",").length <= 7);
        }
        DUE.holds("the methods were found: " + methods, methods > 80);
    }
}
