import java.lang.reflect.Method;
import java.lang.reflect.Modifier;
import java.nio.charset.StandardCharsets;
import java.nio.file.Files;
import java.nio.file.Path;
import java.util.ArrayList;
import java.util.List;
import java.util.Set;
import java.util.TreeSet;
import java.util.regex.Matcher;
import java.util.regex.Pattern;

/** README.md tells what is so: its example answers as told there, its tables name every finding and every call. */
public final class ReadmeTest {
    private static final Pattern EXAMPLE = Pattern.compile("x\\.(\\w+)\\(([^)]*)\\); +// (-?\\d+): .+");
    private static final Pattern FINDING =
        Pattern.compile("\\| (-\\d+) \\| (\\w+) \\| `status\\((\\d)\\)` \\| .+ \\|");
    private static final Pattern CALL = Pattern.compile("`(\\w+)\\(([a-z, ]*)\\)`");
    private static final Check check = new Check();

    public static void main(String[] args) throws Exception {
        String page = Files.readString(Path.of("README.md"), StandardCharsets.ISO_8859_1);
        example(between(page, "```java\n", "```"));
        textOfTheTable(page);
        findings(between(page, "## What its answers mean", "## "));
        calls(between(page, "## The calls", "## "));
        check.end();
    }

    private static String between(String page, String begin, String end) {
        int from = page.indexOf(begin);
        int to = from < 0 ? -1 : page.indexOf(end, from + begin.length());
        check.promise("(README.md)");
        check.due("there is " + begin.trim() + " and an end of it", to > 0 ? 1 : 0, 1);
        return to > 0 ? page.substring(from + begin.length(), to) : "";
    }

    private static void example(String code) {
        check.promise("(README.md, the example)");
        Story story = new Story(check);
        for (String line : code.split("\n")) {
            if (line.isEmpty() || line.equals("WarmWalls x = new WarmWalls();")) {
                continue;
            }
            Matcher told = EXAMPLE.matcher(line);
            check.due("a call and its answer: " + line, told.matches() ? 1 : 0, 1);
            if (told.matches()) {
                story.due(call(told.group(1), told.group(2)), Integer.parseInt(told.group(3)));
            }
        }
    }

    /** As a Story tells it: "feed 1702258030 4". */
    private static String call(String name, String arguments) {
        StringBuilder call = new StringBuilder(name);
        for (String argument : arguments.split(", *")) {
            if (!argument.isEmpty()) {
                call.append(' ').append(Integer.decode(argument));
            }
        }
        return call.toString();
    }

    private static void textOfTheTable(String page) {
        check.promise("(README.md, the text)");
        Matcher told = Pattern.compile("a house from a text: `([^`]+)`").matcher(page);
        check.due("there is a text", told.find() ? 1 : 0, 1);
        WarmWalls x = new WarmWalls();
        check.due("items of " + told.group(1), Check.text(x, told.group(1)), told.group(1).split(";").length);
        check.due("no finding on the way", x.status(-1), 0);
    }

    private static void findings(String part) throws Exception {
        check.promise("(README.md, the findings)");
        List<String> names = new ArrayList<>();
        Matcher told = FINDING.matcher(part);
        while (told.find()) {
            String name = told.group(2);
            names.add(name);
            int answer = Check.class.getDeclaredField(name).getInt(null);
            check.due(name, Integer.parseInt(told.group(1)), answer);
            check.due(name + " is counted by", Integer.parseInt(told.group(3)), Check.BEYOND - answer);
        }
        check.due("findings: " + names, names.size(), 7);
    }

    private static void calls(String part) {
        check.promise("(README.md, the calls)");
        Set<String> due = new TreeSet<>();
        for (Method m : WarmWalls.class.getDeclaredMethods()) {
            if (Modifier.isPublic(m.getModifiers())) {
                due.add(m.getName() + "/" + m.getParameterCount());
            }
        }
        Set<String> there = new TreeSet<>();
        Matcher told = CALL.matcher(part);
        while (told.find()) {
            there.add(told.group(1) + "/" + (told.group(2).isEmpty() ? 0 : told.group(2).split(",").length));
        }
        check.due("calls as they are: " + there + " for " + due, there.equals(due) ? 1 : 0, 1);
    }
}
