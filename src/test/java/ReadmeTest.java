import java.io.IOException;
import java.lang.reflect.Method;
import java.lang.reflect.Modifier;
import java.nio.charset.StandardCharsets;
import java.nio.file.Files;
import java.nio.file.Path;
import java.util.ArrayList;
import java.util.List;
import java.util.regex.Matcher;
import java.util.regex.Pattern;

/** README.md's first run answers what README.md says, and its list names every call. */
public final class ReadmeTest {
    private static final Path README = Path.of("README.md");
    private static final Pattern TOLD = Pattern.compile("(?m)^line\\.(.*);\\s+// (-?\\d+): ");

    private static final List<String> calls = new ArrayList<>();
    private static final List<Integer> answers = new ArrayList<>();

    public static void main(String[] args) throws IOException {
        String readme = Files.readString(README, StandardCharsets.UTF_8);
        firstRun();
        Matcher told = TOLD.matcher(readme);
        int number = 0;
        for (; told.find(); number++) {
            boolean stands = number < calls.size();
            Check.dueText("call " + number + " of README.md", told.group(1), stands ? calls.get(number) : "no call");
            Check.due(told.group(1), stands ? answers.get(number) : 0, Integer.parseInt(told.group(2)));
        }
        Check.due("calls of README.md", number, calls.size());
        Check.due("the description stands in README.md", readme.contains("\"" + DESCRIPTION + "\"") ? 1 : 0, 1);
        for (Method method : CardLine.class.getDeclaredMethods()) {
            if (Modifier.isPublic(method.getModifiers())) {
                Check.due(method.getName() + " stands in README.md",
                    readme.contains("`" + method.getName() + "`") ? 1 : 0, 1);
            }
        }
        Check.end("ReadmeTest");
    }

    private static final String DESCRIPTION =
        "line 480 9 1 2; print 2 01; wheel 4 0; lot 1; card 0 ab; card 0 2(z)";

    private static void say(String call, int answer) {
        calls.add(call);
        answers.add(answer);
    }

    private static void firstRun() {
        CardLine line = new CardLine();
        String text = DESCRIPTION;
        for (int at = 0; at < text.length(); at++) {
            line.append(text.charAt(at));
        }
        say("load()", line.load());
        say("ticksFor(1, 0)", line.ticksFor(1, 0));
        say("failIn(0)", line.failIn(0));
        say("allIn()", line.allIn());
        say("run(20)", line.run(20));
        say("leftAt(0)", line.leftAt(0));
        say("card(1, 5)", line.card(1, 5));
        say("undo()", line.undo());
        say("now()", line.now());
        say("append('3' << 24 | '(' << 16 | 'c' << 8 | ')')", line.append('3' << 24 | '(' << 16 | 'c' << 8 | ')'));
        say("order(0)", line.order(0));
        say("rush(2)", line.rush(2));
        say("nextFed()", line.nextFed());
        say("giveUp(1)", line.giveUp(1));
        say("runToLeave(2000)", line.runToLeave(2000));
        say("giveUp(0)", line.giveUp(0));
        say("writeCard(2)", line.writeCard(2));
        say("outputByte(0)", line.outputByte(0));
    }
}
