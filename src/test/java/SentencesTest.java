import java.io.IOException;
import java.nio.file.Files;
import java.nio.file.Path;
import java.util.ArrayList;
import java.util.List;
import java.util.regex.Matcher;
import java.util.regex.Pattern;

/** Each sentence of 'Terms', 'Exercise' and 'The house' is told by a test of a promise that uses it. */
public final class SentencesTest {
    private static final Check CHECK = new Check();
    private static final Pattern SAYS = Pattern.compile("P\\.says\\(((?:\\s*\"[^\"]*\"\\s*\\+?)+)\\)");

    public static void main(String[] args) throws IOException {
        List<String> told = told();
        CHECK.same("tests tell sentences", told.size() > 100 ? 1 : 0, 1);
        for (String sentence : sentences()) {
            CHECK.same("a test is of \"" + sentence + "\"", isTold(sentence, told) ? 1 : 0, 1);
        }
        CHECK.end("SentencesTest");
    }

    private static List<String> told() throws IOException {
        List<String> found = new ArrayList<>();
        for (int promise = 1; promise <= 24; promise++) {
            Path test = Path.of("src/test/java", String.format("Promise%02dTest.java", promise));
            Matcher matcher = SAYS.matcher(Files.readString(test));
            while (matcher.find()) {
                found.add(matcher.group(1).replaceAll("\"\\s*\\+\\s*\"", "").replace("\"", "").strip());
            }
        }
        return found;
    }

    /** From 'Terms' to the constants, at each full stop, semicolon and end of a line. */
    private static List<String> sentences() throws IOException {
        String document = Files.readString(Path.of("../shared/DOC.md"));
        String terms = document.substring(document.indexOf("## Terms"), document.indexOf("The constants:"));
        List<String> found = new ArrayList<>();
        for (String line : terms.split("(?<=[.;])\\s+|\n")) {
            // a line without a full stop or semicolon is a title
            if (line.endsWith(".") || line.endsWith(";")) {
                found.add(line);
            }
        }
        return found;
    }

    private static boolean isTold(String sentence, List<String> told) {
        for (String words : told) {
            if (sentence.contains(words) || words.contains(sentence)) {
                return true;
            }
        }
        return false;
    }
}
