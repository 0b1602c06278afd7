import java.lang.reflect.Constructor;
import java.lang.reflect.Method;
import java.lang.reflect.Modifier;
import java.nio.charset.StandardCharsets;
import java.nio.file.Files;
import java.nio.file.Path;
import java.util.Set;
import java.util.TreeSet;
import java.util.regex.Matcher;
import java.util.regex.Pattern;

/** What of ../shared/LANGUAGE.md can be seen by reading: the face, the words, the library, where objects are made. */
public final class LanguageTest {
    private static final Check check = new Check();

    public static void main(String[] args) throws Exception {
        String source = read("src/main/java/WarmWalls.java");
        String bare = source.replaceAll("(?s)/\\*.*?\\*/", "").replaceAll("//[^\n]*", "")
            .replaceAll("\"[^\"\n]*\"", "\"\"").replaceAll("'[^'\n]*'", "' '");
        face();
        faceAsWritten(source);
        heads(source);
        names();
        words(bare);
        library(bare);
        objects(bare);
        signs(source);
        lengths(source);
        check.end();
    }

    private static String read(String file) throws Exception {
        return Files.readString(Path.of(file), StandardCharsets.ISO_8859_1);
    }

    private static void face() throws Exception {
        check.promise("(the face)");
        Set<String> due = new TreeSet<>();
        Matcher told = Pattern.compile("    public int (\\w+)\\(([^)]*)\\);").matcher(read("../shared/DOC.md"));
        while (told.find()) {
            due.add(told.group(1) + "/" + (told.group(2).isEmpty() ? 0 : told.group(2).split(",").length));
        }
        Set<String> there = new TreeSet<>();
        for (Method m : WarmWalls.class.getDeclaredMethods()) {
            if (!Modifier.isPrivate(m.getModifiers())) {
                check.due(m + " is public", Modifier.isPublic(m.getModifiers()) ? 1 : 0, 1);
                check.due(m + " isn't static", Modifier.isStatic(m.getModifiers()) ? 1 : 0, 0);
                check.due(m + " answers an int", m.getReturnType() == int.class ? 1 : 0, 1);
                there.add(m.getName() + "/" + m.getParameterCount());
            }
        }
        check.due("methods", due.size(), 46);
        check.due("methods as told: " + there + " for " + due, there.equals(due) ? 1 : 0, 1);
        check.due("final", Modifier.isFinal(WarmWalls.class.getModifiers()) ? 1 : 0, 1);
        Constructor<?>[] constructors = WarmWalls.class.getDeclaredConstructors();
        check.due("constructors", constructors.length, 1);
        check.due("public", Modifier.isPublic(constructors[0].getModifiers()) ? 1 : 0, 1);
    }

    /** With the names and types of the parameters, too. */
    private static void faceAsWritten(String source) throws Exception {
        check.promise("(the face)");
        Matcher told = Pattern.compile("(?m)^( *public [^;{]+\\))([;{])").matcher(read("../shared/DOC.md"));
        int lines = 0;
        while (told.find()) {
            lines++;
            check.due("written so: " + told.group(1).trim(), source.contains("\n" + told.group(1) + " {\n") ? 1 : 0, 1);
        }
        check.due("lines of the face", lines, 47);
        check.due("the class", source.contains("\npublic final class WarmWalls {\n") ? 1 : 0, 1);
    }

    /** "Ahead of the calls .. the interface says": the calls stand under these heads, in this order. */
    private static void heads(String source) throws Exception {
        check.promise("(Terms, the interface says)");
        Matcher told = Pattern.compile("(?m)^Ahead of the calls (.+) the interface says: (---- .+)\\.$")
            .matcher(read("../shared/DOC.md"));
        int calls = 0;
        while (told.find()) {
            Matcher there = Pattern.compile("\n    public int (\\w+)\\(").matcher(partUnder(source, told.group(2)));
            StringBuilder found = new StringBuilder();
            while (there.find()) {
                calls++;
                found.append(found.length() == 0 ? "`" : ", `").append(there.group(1)).append('`');
            }
            check.due("under " + told.group(2) + " " + found, found.toString().equals(told.group(1)) ? 1 : 0, 1);
        }
        check.due("calls under heads", calls, 46);
    }

    private static String partUnder(String source, String head) {
        int from = source.indexOf("\n    // " + head + "\n");
        int to = from < 0 ? -1 : source.indexOf("\n    // ----", from + 1);
        return to < 0 ? "" : source.substring(from, to);
    }

    private static void names() {
        check.promise("(rules 1, 2, 5, 11)");
        Set<String> open = new TreeSet<>();
        for (Method m : WarmWalls.class.getDeclaredMethods()) {
            if (Modifier.isPublic(m.getModifiers())) {
                open.add(m.getName());
            }
        }
        members(WarmWalls.class, open);
        for (Class<?> inside : WarmWalls.class.getDeclaredClasses()) {
            check.due(inside + " is static", Modifier.isStatic(inside.getModifiers()) ? 1 : 0, 1);
            check.due(inside + " isn't public", Modifier.isPublic(inside.getModifiers()) ? 1 : 0, 0);
            members(inside, open);
        }
    }

    private static void members(Class<?> type, Set<String> open) {
        int fields = 0;
        for (var f : type.getDeclaredFields()) {
            boolean isStatic = Modifier.isStatic(f.getModifiers());
            fields += isStatic ? 0 : 1;
            check.due(f + ": static is final", isStatic && !Modifier.isFinal(f.getModifiers()) ? 1 : 0, 0);
            if (type == WarmWalls.class) {
                check.due(f + " is private", Modifier.isPrivate(f.getModifiers()) ? 1 : 0, 1);
            }
        }
        check.due("fields of " + type, fields <= 20 ? 1 : 0, 1);
        for (Method m : type.getDeclaredMethods()) {
            boolean isOpen = type == WarmWalls.class && Modifier.isPublic(m.getModifiers());
            check.due(m + " bears no name of the face", !isOpen && open.contains(m.getName()) ? 1 : 0, 0);
            check.due("parameters of " + m, m.getParameterCount() <= 7 ? 1 : 0, 1);
        }
    }

    private static void words(String bare) {
        check.promise("(rules 2, 6, 13)");
        String[] none = {"throw", "throws", "try", "catch", "finally", "synchronized", "assert", "enum", "record", "package",
            "instanceof", "->", "::", "equals", "hashCode", "toString", "Random", "Thread", "Float", "NaN", "static {"};
        for (String word : none) {
            String pattern = Character.isLetter(word.charAt(0)) ? "\\b" + Pattern.quote(word) + "(?!\\w)" : Pattern.quote(word);
            check.due("no " + word, Pattern.compile(pattern).matcher(bare).find() ? 1 : 0, 0);
        }
        check.due("no two texts joined by +", Pattern.compile("\"\" *\\+|\\+ *\"\"").matcher(bare).find() ? 1 : 0, 0);
    }

    private static void library(String bare) {
        check.promise("(rules 3, 4)");
        Set<String> known = Set.of("Math.min", "Math.max", "System.arraycopy", "Arrays.fill");
        Matcher calls = Pattern.compile("\\b([A-Z][a-z]\\w*\\.\\w+)").matcher(bare.replace("import java.util.Arrays;", ""));
        while (calls.find()) {
            check.due(calls.group(1), known.contains(calls.group(1)) ? 1 : 0, 1);
        }
        check.due("one import alone", bare.split("\\bimport\\b", -1).length - 1, 1);
        check.due("which is Arrays", bare.contains("import java.util.Arrays;") ? 1 : 0, 1);
    }

    /** Calls make nothing: all is made with the object itself, so no run of calls can make too much. */
    private static void objects(String bare) {
        check.promise("(rule 12)");
        for (String line : bare.split("\n")) {
            if (line.matches(".*\\bnew\\b.*")) {
                boolean once = line.matches(" *(private )?final [\\w\\[\\]]+ \\w+ = new .*")
                    || line.trim().equals("sheets[s] = new Sheet();");
                check.due("made with the object: " + line.trim(), once ? 1 : 0, 1);
            }
        }
    }

    private static void signs(String source) {
        check.promise("(rule 4)");
        check.due("signs of 1 to 127", source.chars().allMatch(c -> c == '\n' || c >= 32 && c < 127) ? 1 : 0, 1);
        for (String line : source.split("\n")) {
            check.due("long line: " + line.trim(), line.length() <= 120 ? 1 : 0, 1);
        }
    }

    private static void lengths(String source) {
        check.promise("(rule 11)");
        check.due("classes", source.split("\\bclass \\w+ \\{", -1).length - 1 <= 12 ? 1 : 0, 1);
        Matcher method = Pattern.compile("(?ms)^( +)[\\w\\[\\] ]+\\([^()\n]*\\) \\{\n.*?^\\1\\}\n").matcher(source);
        int methods = 0;
        while (method.find()) {
            methods++;
            String head = method.group().substring(0, method.group().indexOf('\n')).trim();
            check.due("lines of " + head, method.group().split("\n").length <= 60 ? 1 : 0, 1);
        }
        check.due("methods were read", methods >= 46 ? 1 : 0, 1);
    }
}
