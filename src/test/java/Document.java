import java.util.ArrayList;
import java.util.Arrays;
import java.util.LinkedHashMap;
import java.util.List;
import java.util.Map;

/** The sections of the document, and which of their words a test has quoted. */
final class Document {
    private final Map<String, String> sections = new LinkedHashMap<>();
    private final Map<String, boolean[]> quoted = new LinkedHashMap<>();

    Document(String markdown) {
        for (String part : markdown.split("(?m)^## ")) {
            int end = part.indexOf('\n');
            if (end < 0) {
                continue;
            }
            String name = part.substring(0, end).replaceAll("^(Promise \\d+):.*", "$1").trim();
            String words = plain(part.substring(end));
            sections.put(name, words);
            quoted.put(name, new boolean[words.length()]);
        }
    }

    /** Without what Markdown needs for its looks, so that a quote is made of words alone. */
    private static String plain(String markdown) {
        return markdown.replaceAll("(?m)^```.*$", " ").replaceAll("(?m)^- ", " ").replace("`", "")
            .replaceAll("\\s+", " ").trim();
    }

    boolean quote(String section, String words) {
        String text = sections.getOrDefault(section, "");
        boolean[] marks = quoted.get(section);
        int at = text.indexOf(words);
        if (at < 0 || words.isEmpty()) {
            return false;
        }
        while (at >= 0) {
            Arrays.fill(marks, at, at + words.length(), true);
            at = text.indexOf(words, at + 1);
        }
        return true;
    }

    /** The words that no quote holds. The public face is not made of sentences; FaceTest looks at it. */
    List<String> unquoted() {
        List<String> found = new ArrayList<>();
        for (String section : sections.keySet()) {
            if (section.matches("What it is|Terms|Promise \\d+")) {
                addUnquoted(section, found);
            }
        }
        return found;
    }

    private void addUnquoted(String section, List<String> found) {
        boolean[] marks = quoted.get(section);
        StringBuilder rest = new StringBuilder();
        for (int i = 0; i <= marks.length; i++) {
            if (i < marks.length && !marks[i]) {
                rest.append(sections.get(section).charAt(i));
                continue;
            }
            if (rest.toString().matches(".*\\w.*")) {
                found.add(section + ": " + rest.toString().trim());
            }
            rest.setLength(0);
        }
    }
}
