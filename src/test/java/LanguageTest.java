import java.nio.file.Files;
import java.nio.file.Path;
import java.util.regex.Matcher;
import java.util.regex.Pattern;

/** The rules of LANGUAGE.md that can be read off the text of the program. */
public final class LanguageTest {
    private static final int LONGEST_METHOD = 60;

    public static void main(String[] args) throws Exception {
        String source = Files.readString(Path.of("src/main/java/BatchWarehouse.java"));
        String code = source.replaceAll("(?s)/\\*.*?\\*/", "").replaceAll("//[^\n]*", "").replaceAll("\"[^\"\n]*\"", "\"\"");
        String[] forbidden = {"^package ", "->", "::", "\\btry\\b", "\\bcatch\\b", "\\bfinally\\b", "\\bsynchronized\\b", "\\bassert\\b",
            "Exact\\(", "\\bprotected\\b", "\\bString\\[", "\\bSystem\\.(?!arraycopy)", "\\bMath\\.(?!max|min)",
            "\"\" \\+", "\\+ \"\"", "\\bequals\\(", "\\bhashCode\\(", "\\btoString\\(", "[^\\x00-\\x7f]"};
        for (String rule : forbidden) {
            Check.note("the program has no " + rule, false, Pattern.compile(rule, Pattern.MULTILINE).matcher(code).find());
        }
        Check.note("imports", "import java.util.NoSuchElementException;", found(code, "^import .*$"));
        Check.note("static fields are constants", "", found(code, "^ *(private|public)? ?static (?!final)[^(\n]*;$"));
        Check.note("classes", true, count(code, "\\bclass \\w+") <= 12);
        Check.note("the longest method", true, longestMethod(code) <= LONGEST_METHOD);
        Check.end("LanguageTest");
    }

    private static String found(String code, String regex) {
        StringBuilder all = new StringBuilder();
        Matcher m = Pattern.compile(regex, Pattern.MULTILINE).matcher(code);
        while (m.find()) {
            all.append(m.group());
        }
        return all.toString();
    }

    private static int count(String code, String regex) {
        Matcher m = Pattern.compile(regex).matcher(code);
        int count = 0;
        while (m.find()) {
            count++;
        }
        return count;
    }

    /** Lines from a method's head to the brace that closes it. */
    private static int longestMethod(String code) {
        Matcher m = Pattern.compile("^( +)[\\w\\[\\] ]+\\([^;]*\\{\\n(?s:.*?)^\\1\\}", Pattern.MULTILINE).matcher(code);
        int longest = 0;
        while (m.find()) {
            longest = Math.max(longest, m.group().split("\n").length);
        }
        return longest;
    }
}
