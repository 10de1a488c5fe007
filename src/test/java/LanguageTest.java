import java.io.IOException;
import java.nio.file.Files;
import java.nio.file.Path;
import java.util.List;
import java.util.regex.Matcher;
import java.util.regex.Pattern;

/** What of LANGUAGE.md a look at the words of the source can tell; run it in the project's folder. */
public final class LanguageTest {
    private static final Check CHECK = new Check();
    private static final List<String> FORBIDDEN = List.of(
            "->", "::", "\\bpackage\\b", "\\bfinally\\b", "\\bsynchronized\\b", "\\bassert\\b", "\\bvolatile\\b",
            "\\bnative\\b", "\\bprotected\\b", "\\bcatch\\b", "\\btry\\b", "Exact\\b", "\\bSystem\\b", "\\bThread\\b",
            "\\bRandom\\b", "\\bvar\\b", "\\bequals\\s*\\(", "\\bhashCode\\b", "\\btoString\\b", "\\bdouble\\b",
            "\\bfloat\\b", "\\bstatic\\s*\\{", "\\bextends\\b", "\\[\\]\\s*\\[\\]\\s*\\[\\]", "[^\\x00-\\x7f]",
            "\\+\\s*\"", "\"\\s*\\+", "\\bwhile\\b", "for \\([^;)]*:");
    private static final List<String> IMPORTS = List.of("java.util.ArrayList", "java.util.List");
    private static final List<String> THROWN = List.of("IllegalStateException", "IllegalArgumentException",
            "IndexOutOfBoundsException");

    public static void main(String[] args) throws IOException {
        String source = Files.readString(Path.of("src/main/java/Strikehall.java"));
        String code = source.replaceAll("(?s)/\\*.*?\\*/", "").replaceAll("//[^\n]*", "");
        for (String word : FORBIDDEN) {
            CHECK.same("places of " + word, places(word, code), 0);
        }
        allOf("import ([\\w.]+);", code, IMPORTS);
        allOf("throw new (\\w+)\\(", code, THROWN);
        CHECK.same("throws without new", places("\\bthrow\\b", code), places("\\bthrow new\\b", code));
        allOf("Math\\.(\\w+)", code, List.of("max", "min", "abs"));
        CHECK.same("static fields that are not final", places("\\bstatic (?!final )[\\w<>\\[\\]]+ \\w+ ?[=;]", code), 0);
        methods(code);
        CHECK.end("LanguageTest");
    }

    private static int places(String word, String code) {
        Matcher matcher = Pattern.compile(word).matcher(code);
        int places = 0;
        while (matcher.find()) {
            places++;
        }
        return places;
    }

    private static void allOf(String word, String code, List<String> allowed) {
        Matcher matcher = Pattern.compile(word).matcher(code);
        while (matcher.find()) {
            CHECK.same("allowed, " + matcher.group(1), allowed.contains(matcher.group(1)) ? 1 : 0, 1);
        }
    }

    /** Each method has at most 7 parameters and 60 lines. */
    private static void methods(String code) {
        Matcher matcher = Pattern.compile("(\\w+)\\(([^()]*)\\)[^;{}()=]*\\{").matcher(code);
        int found = 0;
        while (matcher.find()) {
            if (List.of("if", "for", "switch").contains(matcher.group(1))) {
                continue;
            }
            found++;
            int commas = places(",", matcher.group(2));
            CHECK.same(matcher.group(1) + " has at most 7 parameters", commas <= 6 ? 1 : 0, 1);
            CHECK.same(matcher.group(1) + " is short", lines(code, matcher.end()) <= 60 ? 1 : 0, 1);
        }
        CHECK.same("methods are found", found > 23 ? 1 : 0, 1);
    }

    private static int lines(String code, int from) {
        int open = 1;
        int lines = 1;
        for (int i = from; i < code.length() && open > 0; i++) {
            char sign = code.charAt(i);
            open += sign == '{' ? 1 : sign == '}' ? -1 : 0;
            lines += sign == '\n' ? 1 : 0;
        }
        return lines;
    }
}
