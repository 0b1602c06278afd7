import java.nio.charset.StandardCharsets;
import java.nio.file.Files;
import java.nio.file.Path;
import java.util.ArrayList;
import java.util.LinkedHashMap;
import java.util.LinkedHashSet;
import java.util.List;
import java.util.Map;
import java.util.Set;

/** The sentences of ../shared/DOC.md, and which of them a test has quoted. */
final class Document {
    static final int TERMS = 0;
    private static final int PROMISES = 47;

    private final Map<Integer, List<String>> sentences = new LinkedHashMap<>();
    private final Set<String> quoted = new LinkedHashSet<>();

    Document() throws Exception {
        String all = Files.readString(Path.of("../shared/DOC.md"), StandardCharsets.UTF_8);
        readPart(TERMS, between(all, "\n## Terms\n", "\n## Promise 1: "));
        for (int promise = 1; promise <= PROMISES; promise++) {
            String next = promise < PROMISES ? "\n## Promise " + (promise + 1) + ": " : "\n## Not promised\n";
            String part = between(all, "\n## Promise " + promise + ": ", next);
            readPart(promise, part.substring(part.indexOf('\n')));
        }
    }

    private static String between(String all, String begin, String end) {
        int from = all.indexOf(begin);
        int to = all.indexOf(end, from);
        if (from < 0 || to < 0) {
            throw new IllegalStateException("the document has no part from " + begin.trim() + " to " + end.trim());
        }
        return all.substring(from + begin.length(), to);
    }

    /** In the Terms a block within ``` has its own paragraphs; their later lines go on with a small sign or a bracket. */
    private void readPart(int promise, String part) {
        List<String> found = new ArrayList<>();
        String bare = part.replaceAll("(?m)^```.*$", "").replaceAll("(?m)^Ahead of the calls.*$", "");
        for (String paragraph : bare.split("\n\\s*\n|\n(?=   [A-Z])")) {
            String words = paragraph.replaceAll("\\s+", " ").trim().replaceFirst("^\\d+\\. ", "").replaceFirst("^`[^`]*`: ", "");
            for (String sentence : words.split("(?<=[^.]\\.) (?=[A-Z(])")) {
                if (!sentence.isEmpty()) {
                    found.add(sentence);
                }
            }
        }
        sentences.put(promise, found);
    }

    /** Marks the one sentence of a promise that is the words told or has them in it; false if there is not one. */
    boolean quote(int promise, String words) {
        List<String> found = new ArrayList<>();
        for (String sentence : sentences.get(promise)) {
            if (sentence.equals(words)) {
                found.clear();
                found.add(sentence);
                break;
            }
            if (sentence.contains(words)) {
                found.add(sentence);
            }
        }
        if (found.size() != 1) {
            return false;
        }
        quoted.add(promise + found.get(0));
        return true;
    }

    List<String> notQuoted() {
        List<String> left = new ArrayList<>();
        for (Map.Entry<Integer, List<String>> part : sentences.entrySet()) {
            for (String sentence : part.getValue()) {
                if (!quoted.contains(part.getKey() + sentence)) {
                    left.add((part.getKey() == TERMS ? "Terms: " : "promise " + part.getKey() + ": ") + sentence);
                }
            }
        }
        return left;
    }
}
