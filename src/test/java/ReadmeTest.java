import java.io.IOException;
import java.lang.reflect.Method;
import java.nio.file.Files;
import java.nio.file.Path;
import java.util.ArrayList;
import java.util.List;
import java.util.regex.Matcher;
import java.util.regex.Pattern;

/** README.md says how to use the class: its example answers what it tells, and every call of the face stands there. */
public final class ReadmeTest {
    private static final String EXAMPLE_BEGIN = "```java\n";
    private static final String EXAMPLE_END = "```\n";

    private static String example;
    private static int read;

    public static void main(String[] args) throws IOException {
        String readme = Files.readString(Path.of("README.md"));
        int begin = readme.indexOf(EXAMPLE_BEGIN) + EXAMPLE_BEGIN.length();
        example = readme.substring(begin, readme.indexOf(EXAMPLE_END, begin));
        read = 0;
        Check.that("README.md: the example", ReadmeTest::exampleHolds);
        Check.that("README.md: the constructor", () -> entry(readme, "RouteFrame\\(\\)"));
        for (Method method : RouteFrame.class.getMethods()) {
            if (method.getDeclaringClass() == RouteFrame.class) {
                Check.that("README.md: " + method.getName(), () -> tellsOf(readme, method));
            }
        }
        Check.end();
    }

    private static void exampleHolds() {
        tells("RouteFrame box = new RouteFrame();");
        RouteFrame box = new RouteFrame();
        int near = answers("int near = box.section(false);", box.section(false));
        int fork = answers("int fork = box.section(true);", box.section(true));
        int branch = answers("int branch = box.section(false);", box.section(false));
        int turn = answers("int turn = box.route(0, near, 2);", box.route(0, near, 2));
        tells("box.use(turn, fork, 2);");
        box.use(turn, fork, 2);
        tells("box.use(turn, branch, 0);");
        box.use(turn, branch, 0);
        timed(box, turn, near);
        train(box, turn, fork, branch);
        Check.is("lines of the example behind the last that was run", example.substring(read).strip(), "");
    }

    private static void timed(RouteFrame box, int turn, int near) {
        answers("box.request(turn);", box.request(turn));
        answers("box.off(0);", box.off(0));
        tells("box.tick(3);");
        box.tick(3);
        answers("box.off(0);", box.off(0));
        answers("box.occupy(near);", box.occupy(near));
        answers("box.cancel(turn);", box.cancel(turn));
        answers("box.off(0);", box.off(0));
        tells("box.tick(2);");
        box.tick(2);
    }

    private static void train(RouteFrame box, int turn, int fork, int branch) {
        answers("box.request(turn);", box.request(turn));
        answers("box.occupy(fork);", box.occupy(fork));
        answers("box.off(0);", box.off(0));
        answers("box.occupy(branch);", box.occupy(branch));
        answers("box.vacate(fork);", box.vacate(fork));
        answers("box.about(turn, 3);", box.about(turn, 3));
        answers("box.vacate(branch);", box.vacate(branch));
        answers("box.about(turn, 0);", box.about(turn, 0));
    }

    /** The next line of the example is this call; gives what its comment says. */
    private static String tells(String call) {
        int end = example.indexOf('\n', read);
        String line = end < 0 ? "" : example.substring(read, end);
        read = end < 0 ? example.length() : end + 1;
        if (line.isEmpty() && read < example.length()) {
            return tells(call);
        }
        int comment = line.indexOf("//");
        Check.is("the example's next call", comment < 0 ? line : line.substring(0, comment).strip(), call);
        return comment < 0 ? "" : line.substring(comment + 2).strip();
    }

    private static int answers(String call, int answer) {
        Check.is(call, String.valueOf(answer), tells(call).split(":")[0]);
        return answer;
    }

    private static void answers(String call, boolean answer) {
        Check.is(call, String.valueOf(answer), tells(call).split(":")[0]);
    }

    /** Its entry has the signature of the call and names its exceptions in the order of the face. */
    private static void tellsOf(String readme, Method method) {
        List<String> parameters = new ArrayList<>();
        for (Class<?> type : method.getParameterTypes()) {
            parameters.add(type.getName() + " \\w+");
        }
        String signature = method.getReturnType().getName() + " " + method.getName()
                + "\\(" + String.join(", ", parameters) + "\\)";
        List<String> due = new ArrayList<>();
        for (Class<?> exception : method.getExceptionTypes()) {
            due.add(exception.getSimpleName());
        }
        List<String> named = new ArrayList<>();
        Matcher exceptions = Pattern.compile("`(\\w+Exception)`").matcher(entry(readme, signature));
        while (exceptions.find()) {
            named.add(exceptions.group(1));
        }
        Check.is("the exceptions named", String.join(" ", named), String.join(" ", due));
    }

    /** What the list says of a call, up to the next entry or the end of the list. */
    private static String entry(String readme, String signature) {
        Matcher found = Pattern.compile("\n- `" + signature + "`: (.*?)(?=\n- |\n\n)", Pattern.DOTALL).matcher(readme);
        if (!found.find()) {
            Check.report("no entry has the signature " + signature);
            return "";
        }
        return found.group(1);
    }
}
