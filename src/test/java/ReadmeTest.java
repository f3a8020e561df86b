import java.io.IOException;
import java.nio.file.Files;
import java.nio.file.Path;
import java.util.regex.Matcher;
import java.util.regex.Pattern;

/** The example of README.md: each line of it is called, and its answer is the one that it tells. */
public final class ReadmeTest {
    private static final Pattern LINE = Pattern.compile(
            "x\\.(\\w+)\\((\\d*)(?:, (\\d+))?\\); +// (transition \\d+|NONE|-?\\d+|true|false|at first)\\b.*");

    public static void main(String[] args) throws IOException {
        NetUnfolder x = null;
        int lines = 0;
        for (String line : Files.readAllLines(Path.of("README.md"))) {
            Matcher call = LINE.matcher(line);
            if (line.equals("NetUnfolder x = new NetUnfolder();")) {
                x = new NetUnfolder();
            } else if (line.startsWith("x.")) {
                lines++;
                Checks.that("a call and its answer: " + line, x != null && call.matches());
                Checks.sameText(line, answer(x, call), call.group(4).replace("transition ", ""));
            }
        }
        Checks.same("lines of the example", lines, 13);
        Checks.end();
    }

    private static String answer(NetUnfolder x, Matcher call) {
        int a = number(call.group(2));
        int b = number(call.group(3));
        switch (call.group(1)) {
            case "transition":
                return told(x.transition(a, b));
            case "first":
                x.first(a);
                return "at first";
            case "unfold":
                return told(x.unfold());
            case "reach":
                return told(x.reach(a));
            case "deadlock":
                return told(x.deadlock());
            case "way":
                return told(x.way(a));
            case "play":
                return told(x.play(a));
            case "count":
                return told(x.count(a));
            case "condition":
                return told(x.condition(a, b));
            case "concurrent":
                return x.concurrent(a, b) ? "true" : "false";
            default:
                return "no call of the example: " + call.group(1);
        }
    }

    private static int number(String text) {
        return text == null || text.isEmpty() ? 0 : Integer.parseInt(text);
    }

    private static String told(int answer) {
        return answer == NetUnfolder.NONE ? "NONE" : Integer.toString(answer);
    }
}
