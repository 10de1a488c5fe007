import java.io.IOException;
import java.nio.file.Files;
import java.nio.file.Path;
import java.util.ArrayList;
import java.util.List;
import java.util.regex.Matcher;
import java.util.regex.Pattern;

/** The calls that README.md shows under 'Use' answer what stands behind them there; run it in the project's folder. */
public final class ReadmeTest {
    private static final Check CHECK = new Check();
    // a call of the example, and the number behind it, if it has one
    private static final Pattern SHOWN = Pattern.compile(
            "(?:int \\w+ = )?(house\\.\\w+\\([^;]*\\));\\s*// (?:(-?\\d+):)?.*");

    private final List<String> calls = new ArrayList<>();
    private final List<String> answers = new ArrayList<>();
    private int next = 0;

    public static void main(String[] args) throws IOException {
        ReadmeTest test = new ReadmeTest();
        test.read();
        test.makeCalls();
        CHECK.same("calls that README.md shows besides", test.calls.size() - test.next, 0);
        CHECK.end("ReadmeTest");
    }

    private void read() throws IOException {
        String readme = Files.readString(Path.of("README.md"));
        int start = readme.indexOf("```java\n");
        for (String line : readme.substring(start, readme.indexOf("\n```\n", start)).split("\n")) {
            Matcher matcher = SHOWN.matcher(line);
            if (matcher.matches()) {
                calls.add(matcher.group(1));
                answers.add(matcher.group(2) == null ? "" : matcher.group(2));
            } else if (line.contains("house.")) {
                CHECK.same("a line that can be read", line, "a call and what it answers");
            }
        }
    }

    /** The next call that README.md shows is this one, without an answer to it. */
    private void shows(String call) {
        shown(call, "");
    }

    private void shows(String call, long answer) {
        shown(call, String.valueOf(answer));
    }

    private void shown(String call, String answer) {
        boolean isThere = next < calls.size();
        CHECK.same("README.md, call " + next, isThere ? calls.get(next) : "none", call);
        CHECK.same("README.md, answer to " + call, isThere ? answers.get(next) : "none", answer);
        next++;
    }

    private void makeCalls() {
        Strikehall house = new Strikehall();
        house.steps(10, 5);
        shows("house.steps(10, 5)");
        int call = house.contract(Strikehall.CALL, 10000, 2, false);
        shows("house.contract(Strikehall.CALL, 10000, 2, false)", call);
        int put = house.contract(Strikehall.PUT, 10100, 1, true);
        shows("house.contract(Strikehall.PUT, 10100, 1, true)", put);
        shows("house.value(call, false)", house.value(call, false));
        shows("house.value(call, true)", house.value(call, true));
        shows("house.mark(call)", house.mark(call));
        shows("house.quote(call, 40, 50, 20)", house.quote(call, 40, 50, 20));
        shows("house.quote(put, 105, 105, 20)", house.quote(put, 105, 105, 20));
        shows("house.quote(put, 95, 105, 20)", house.quote(put, 95, 105, 20));
        shows("house.order(0, call, 10, 50)", house.order(0, call, 10, 50));
        shows("house.order(1, put, 4, 105)", house.order(1, put, 4, 105));
        shows("house.order(2, put, -3, 95)", house.order(2, put, -3, 95));
        shows("house.order(3, put, -3, 96)", house.order(3, put, -3, 96));
        shows("house.quoted(call, 3)", house.quoted(call, 3));
        shows("house.lots(Strikehall.NONE, call)", house.lots(Strikehall.NONE, call));
        shows("house.cash(0)", house.cash(0));
        shows("house.hedge(5, 100)", house.hedge(5, 100));
        shows("house.worst(10)", house.worst(10));
        days(house, call, put);
    }

    private void days(Strikehall house, int call, int put) {
        shows("house.move(9900)", house.move(9900));
        house.seed(7);
        shows("house.seed(7)");
        shows("house.exercise(1, put, 1)", house.exercise(1, put, 1));
        house.contrary(1, call, true);
        shows("house.contrary(1, call, true)");
        shows("house.dividend(2, 20)", house.dividend(2, 20));
        shows("house.close()", house.close());
        shows("house.close()", house.close());
        shows("house.worth()", house.worth());
        shows("house.cause(1)", house.cause(1));
        shows("house.kill()", house.kill());
    }
}
