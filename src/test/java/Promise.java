import java.io.IOException;
import java.nio.file.Files;
import java.nio.file.Path;
import java.util.ArrayList;
import java.util.HashSet;
import java.util.List;
import java.util.Set;

/**
 * The boundary tests of one promise. Each is told the sentence of ../shared/DOC.md that it is of;
 * at the end, each sentence of the promise has been told, or the test fails.
 */
final class Promise {
    static final Class<?> ARGUMENT = IllegalArgumentException.class;
    static final Class<?> STATE = IllegalStateException.class;
    static final Class<?> INDEX = IndexOutOfBoundsException.class;
    static final int LEAST = Integer.MIN_VALUE;
    static final int MOST = Integer.MAX_VALUE;

    /** A call on a house. */
    interface Call {
        long on(Strikehall x);
    }

    /** A call on a house with one number that is looked at. */
    interface NumberCall {
        long on(Strikehall x, int number);
    }

    private final Check check = new Check();
    private final String document = read();
    private final String name;
    private final String test;
    private final Set<String> said = new HashSet<>();
    private String sentence = "";

    Promise(int number) {
        name = "Promise " + number;
        test = String.format("Promise%02dTest", number);
    }

    private static String read() {
        try {
            return Files.readString(Path.of("../shared/DOC.md"));
        } catch (IOException e) {
            throw new IllegalStateException("the document is not there", e);
        }
    }

    /** The checks to come are of this sentence. */
    void says(String words) {
        sentence = words;
        said.add(words);
        check.same(name + ": the document says \"" + words + "\"", document.contains(words) ? 1 : 0, 1);
    }

    private String full(String call) {
        return name + ", \"" + sentence + "\": " + call;
    }

    void same(String call, long got, long due) {
        check.same(full(call), got, due);
    }

    void is(String call, boolean got, boolean due) {
        check.same(full(call), got ? 1 : 0, due ? 1 : 0);
    }

    /** Nothing is thrown, and the answer is the one that is due. */
    void answers(String call, Houses.Setup setup, Call made, long due) {
        Strikehall x = setup.make();
        check.same(full(call), Check.outcome(() -> made.on(x)), String.valueOf(due));
    }

    /** The call throws that exception, and the house goes on just as one that was not called so. */
    void refused(String call, Houses.Setup setup, Class<?> due, Call made) {
        for (int way = 0; way < Probe.WAYS; way++) {
            Strikehall x = setup.make();
            check.same(full(call), Check.outcome(() -> made.on(x)), "throws." + due.getSimpleName());
            check.same(full(call + ", what is then"), Probe.of(way, x), Probe.of(way, setup.make()));
        }
    }

    /** Each of these numbers is refused. */
    void refusedEach(String call, Houses.Setup setup, Class<?> due, NumberCall made, int... numbers) {
        for (int number : numbers) {
            refused(call + " with " + number, setup, due, x -> made.on(x, number));
        }
    }

    /** The house is, from outside, as the other one. */
    void alike(String when, Houses.Setup one, Houses.Setup other) {
        for (int way = 0; way < Probe.WAYS; way++) {
            check.same(full(when), Probe.of(way, one.make()), Probe.of(way, other.make()));
        }
    }

    void end() {
        for (String line : sentences()) {
            check.same(name + " has a test of its own for \"" + line + "\"", isSaid(line) ? 1 : 0, 1);
        }
        check.end(test);
    }

    private boolean isSaid(String line) {
        for (String words : said) {
            if (line.contains(words)) {
                return true;
            }
        }
        return false;
    }

    /** What the document says under the promise's title: its calls, arguments, answers, exceptions. */
    private List<String> sentences() {
        List<String> found = new ArrayList<>();
        int start = document.indexOf("## " + name + ":");
        int end = document.indexOf("\n## ", start);
        String[] lines = document.substring(start, end).split("\n");
        for (int i = 1; i < lines.length; i++) {
            if (!lines[i].isBlank()) {
                found.add(lines[i]);
            }
        }
        return found;
    }
}
