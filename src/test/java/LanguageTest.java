import java.io.IOException;
import java.nio.file.Files;
import java.nio.file.Path;
import java.util.List;
import java.util.regex.Matcher;
import java.util.regex.Pattern;

/** What can be read off the program's text of the rules in ../shared/LANGUAGE.md. */
public final class LanguageTest {
    private static final Path PROGRAM = Path.of("src/main/java/OfficeholdersRoll.java");

    public static void main(String[] args) throws IOException {
        String text = Files.readString(PROGRAM);
        String code = withoutCommentsAndTexts(text);
        signs(text);
        forbiddenWords(code);
        library(code);
        arraysInOneClass(code);
        whatIsMade(code);
        exceptions(code);
        methodsAreShort(Files.readAllLines(PROGRAM));
        Due.end();
    }

    private static String withoutCommentsAndTexts(String text) {
        return text.replaceAll("(?s)/\\*.*?\\*/", " ").replaceAll("\"[^\"\n]*\"", "\"\"").replaceAll("//[^\n]*", " ");
    }

    private static void signs(String text) {
        Due.is("signs are 1 to 127", true, text.chars().allMatch(sign -> sign >= 1 && sign <= 127));
    }

    /** Some of these the rules allow within bounds; the program needs none of them, so none is looked at closer. */
    private static void forbiddenWords(String code) {
        String[] words = {"package", "import", "->", "::", "\\btry\\b", "\\bcatch\\b", "\\bfinally\\b",
            "\\bsynchronized\\b", "\\bassert\\b", "\\bprotected\\b", "\\bvar\\b", "\\bnative\\b",
            "\\bequals\\b", "\\bhashCode\\b", "\\btoString\\b", "\\bSystem\\b", "\\bThread\\b", "static \\{"};
        for (String word : words) {
            Due.is("without " + word, false, Pattern.compile(word).matcher(code).find());
        }
        Due.is("nothing divides", false, code.contains("/") || code.contains("%"));
    }

    /** Of the library's names only these stand in the program. */
    private static void library(String code) {
        Matcher calls = Pattern.compile("\\b([A-Z][A-Za-z]*)\\.([A-Za-z_]+)").matcher(code);
        List<String> allowed = List.of("Math.max", "Math.min", "Integer.bitCount", "Groupings.NOT_RIGHT");
        while (calls.find()) {
            Due.is("use of " + calls.group(), true, allowed.contains(calls.group()));
        }
    }

    /** Row looks at each index, so that arrays stand nowhere else. */
    private static void arraysInOneClass(String code) {
        int from = code.indexOf("class Row");
        int to = code.indexOf("class Pairs");
        Due.is("the row stands ahead of the pairs", true, from >= 0 && from < to);
        String others = code.substring(0, from) + code.substring(to);
        Due.is("arrays stand in Row alone", false, others.contains("[") || others.contains("]"));
        String row = code.substring(from, to);
        Due.is("one array for each row", 1, row.split("new int\\[", -1).length - 1);
    }

    /** All but exceptions is made with the object: by the initialisers of final fields, or by the row's constructor. */
    private static void whatIsMade(String code) {
        for (String line : code.split("\n")) {
            if (line.contains("new ")) {
                boolean isWithObject = line.contains("private final ") || line.contains("partners = new Row(")
                        || line.contains("cells = new int[");
                Due.is("made in: " + line.trim(), true, isWithObject || line.contains("throw new "));
            }
        }
    }

    private static void exceptions(String code) {
        Matcher thrown = Pattern.compile("throw +([^;]*);").matcher(code);
        Pattern form = Pattern.compile(
                "new (IndexOutOfBoundsException|IllegalArgumentException|IllegalStateException)\\(\"\"\\)");
        int count = 0;
        while (thrown.find()) {
            count++;
            Due.is("form of " + thrown.group(), true, form.matcher(thrown.group(1)).matches());
        }
        Due.is("something is thrown", true, count > 0);
    }

    /** A method begins with four or eight blanks and ends with a brace of the same depth. */
    private static void methodsAreShort(List<String> lines) {
        Pattern head = Pattern.compile(
                "( {4}| {8})(public|private|static|int|boolean|void|[A-Z][a-z]+)\\b[^;=]*\\)[^;=]*");
        int count = 0;
        for (int k = 0; k < lines.size(); k++) {
            Matcher begins = head.matcher(lines.get(k));
            if (begins.matches()) {
                int end = k;
                while (!lines.get(end).equals(begins.group(1) + "}")) {
                    end++;
                }
                count++;
                Due.is("lines of " + lines.get(k).trim(), true, end - k <= 60);
            }
        }
        Due.is("methods are found", true, count > 60);
    }
}
