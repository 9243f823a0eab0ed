import java.io.IOException;
import java.nio.file.Files;
import java.nio.file.Path;
import java.util.List;
import java.util.regex.Matcher;
import java.util.regex.Pattern;

/** What README.md tells of the class; run from the project's folder. */
public final class ReadmeTest {
    private static final Path README = Path.of("README.md");
    private static final Path DOCUMENT = Path.of("../shared/DOC.md");
    private static final Pattern ANSWERED = Pattern.compile("(x\\.\\w+\\([^)]*\\)); +// (-?\\d+).*");

    private final Checks checks = new Checks();
    private final String page;
    private final List<String> answered;
    private int line = 0;

    private ReadmeTest(String page) {
        this.page = page;
        answered = page.lines().filter(told -> ANSWERED.matcher(told).matches()).toList();
    }

    public static void main(String[] args) throws IOException {
        ReadmeTest test = new ReadmeTest(Files.readString(README));
        test.example();
        test.statements();
        test.eachCall();
        test.refusals();
        test.noRefusals();
        test.checks.end();
    }

    private void mustSay(String words) {
        if (page.replaceAll("\\s+", " ").contains(words)) checks.due(words, 0, 0);
        else checks.note("README.md does not say: " + words);
    }

    /** The next line of the example that tells an answer is this call's. */
    private void next(String call, long answer) {
        Matcher told = ANSWERED.matcher(line < answered.size() ? answered.get(line) : "");
        line++;
        if (told.matches() && told.group(1).equals(call)) checks.due(call, answer, Long.parseLong(told.group(2)));
        else checks.note("README.md does not go on with " + call);
    }

    private void example() {
        HeWreckedHimself x = new HeWreckedHimself();
        mustSay("for (char c : \"ks14;kf01;sb05;\".toCharArray()) x.letter(c);");
        for (char c : "ks14;kf01;sb05;".toCharArray()) x.letter(c);
        next("x.sea()", x.sea());
        next("x.count(0)", x.count(0));
        next("x.days(0, 35)", x.days(0, 35));
        next("x.shake(35)", x.shake(35));
        next("x.wreck(1)", x.wreck(1));
        next("x.learn(4, 1)", x.learn(4, 1));
        next("x.look()", x.look());
        next("x.mean(0)", x.mean(0));
        next("x.mean(1)", x.mean(1));
        next("x.square(36, 0)", x.square(36, 0));
        next("x.mean(2)", x.mean(2));
        next("x.count(12)", x.count(12));
        checks.due("lines of the example with an answer", answered.size(), line);
    }

    private void statements() {
        String[] told = {"kf01", "vf0105", "l01059", "h07", "d42", "c3009", "sb05"};
        StringBuilder text = new StringBuilder();
        for (String statement : told) {
            mustSay("`" + statement + "`");
            text.append(statement).append(';');
        }
        HeWreckedHimself x = new HeWreckedHimself();
        checks.due(text.toString(), Checks.tell(x, text.toString()), told.length);
        checks.due("fog from 1 to 5", x.square(5, 0), 3);
        checks.due("likely 9 from 1 to 5", x.square(2, 2), 9);
        int[] captain = {7, 4, 2, 30, 9};
        for (int i = 0; i < captain.length; i++) checks.due("count(" + (2 + i) + ")", x.count(2 + i), captain[i]);
    }

    /** By its name and its parameters' names, as the document's face has them. */
    private void eachCall() throws IOException {
        Matcher face = Pattern.compile("    public (int|long) (\\w+)\\(([^)]*)\\);").matcher(Files.readString(DOCUMENT));
        int calls = 0;
        while (face.find()) {
            mustSay("`" + face.group(2) + "(" + face.group(3).replaceAll("int (\\w+)", "$1") + ")`");
            calls++;
        }
        checks.due("calls of the face", calls, 32);
    }

    private void refusals() {
        HeWreckedHimself x = new HeWreckedHimself();
        dueRefused("-1 (no such square; `count(11)`)", x, x.days(0, 36), -1, 11);
        dueRefused("-2 (no such kind, no such `what`; `count(12)`)", x, x.leftBy(6), -2, 12);
        dueRefused("-3 (it is not as it must be; `count(13)`)", x, x.on(), -3, 13);
        dueRefused("-4 (below the least; `count(14)`)", x, x.set(1, 0), -4, 14);
        dueRefused("-6 (above the greatest, no room; `count(16)`)", x, x.set(1, 10), -6, 16);
        HeWreckedHimself other = new HeWreckedHimself();
        dueRefused("4000000000000000000 less the number", other, other.mean(-1), 4000000000000000002L, 12);
        mustSay("with a part other than 0 and 1 that is 4000000000000000002 (-2; `count(12)`)");
    }

    private void dueRefused(String words, HeWreckedHimself x, long got, long want, int counted) {
        mustSay(words);
        checks.due(words, got, want);
        checks.due("count(" + counted + ") behind: " + words, x.count(counted), 1);
    }

    private void noRefusals() {
        mustSay("it is no refusal");
        HeWreckedHimself x = new HeWreckedHimself();
        checks.due("none", x.count(10), -9);
        mustSay("-1000 less the place (from 0)");
        checks.due("a letter that nothing goes on with", Checks.tell(x, "ks14;kx"), -1006);
        mustSay("-2000 less the place");
        checks.due("a statement that is not as it must be", Checks.tell(x, "ks14;h14;"), -2005);
        checks.due("letters behind a fault", x.count(9), 0);
        checks.due("the sea behind a fault", x.square(14, 0), 0);
        for (int what = 11; what <= 16; what++) checks.due("count(" + what + ")", x.count(what), 0);
    }
}
