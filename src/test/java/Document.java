import java.io.IOException;
import java.nio.file.Files;
import java.nio.file.Path;
import java.util.ArrayList;
import java.util.List;
import java.util.Map;
import java.util.TreeMap;
import java.util.regex.Matcher;
import java.util.regex.Pattern;

/** The words of the document, by promise, and which of them a test has quoted. */
final class Document {
    static final int WHAT_IT_IS = -1;
    static final int TERMS = 0;

    private static final Path FILE = Path.of("../shared/DOC.md");
    private static final Pattern PROMISE = Pattern.compile("## Promise (\\d+):.*");

    /** All that can be quoted: the explanations of parameters too. */
    private final Map<Integer, String> words = new TreeMap<>();
    /** What has to be quoted: all but the explanations of parameters, titles and introductions. */
    private final Map<Integer, String> rules = new TreeMap<>();
    private final Map<Integer, boolean[]> quoted = new TreeMap<>();

    Document() throws IOException {
        Integer section = null;
        for (String line : Files.readAllLines(FILE)) {
            if (line.startsWith("## ")) {
                section = sectionOf(line);
            } else if (section != null && !line.isEmpty() && !line.startsWith("Ahead of the calls")) {
                takeLine(section, line);
            }
        }
        rules.forEach((number, text) -> quoted.put(number, new boolean[text.length()]));
    }

    private static Integer sectionOf(String title) {
        Matcher promise = PROMISE.matcher(title);
        if (promise.matches()) {
            return Integer.valueOf(promise.group(1));
        }
        return title.equals("## Terms") ? Integer.valueOf(TERMS)
                : title.equals("## What it is") ? Integer.valueOf(WHAT_IT_IS) : null;
    }

    private void takeLine(int section, String line) {
        String spoken = line.replaceFirst("^`[^`]*\\)[^`]*`: ?", "");
        boolean explains = spoken.startsWith("- `");
        boolean introduces = !words.containsKey(section) && section <= TERMS;
        words.merge(section, plain(spoken), (before, more) -> before + " " + more);
        if (!explains && !introduces) {
            rules.merge(section, plain(spoken), (before, more) -> before + " " + more);
        }
    }

    private static String plain(String line) {
        return line.replace("`", "").replaceAll("\\s+", " ").trim();
    }

    static String title(int section) {
        return section == WHAT_IT_IS ? "What it is" : section == TERMS ? "Terms" : "promise " + section;
    }

    /** Marks these words of a section as tested; false if the section does not say them. */
    boolean quote(int section, String said) {
        String rule = rules.getOrDefault(section, "");
        boolean[] marks = quoted.getOrDefault(section, new boolean[0]);
        for (int at = rule.indexOf(said); at >= 0; at = rule.indexOf(said, at + 1)) {
            for (int i = at; i < at + said.length(); i++) {
                marks[i] = true;
            }
        }
        return words.getOrDefault(section, "").contains(said);
    }

    int promises() {
        return (int) words.keySet().stream().filter(section -> section > TERMS).count();
    }

    /** The rules that no test has quoted, each with its promise. */
    List<String> untested() {
        List<String> left = new ArrayList<>();
        rules.forEach((section, rule) -> {
            StringBuilder rest = new StringBuilder();
            for (int i = 0; i < rule.length(); i++) {
                rest.append(quoted.get(section)[i] ? '|' : rule.charAt(i));
            }
            for (String part : rest.toString().split("\\|+")) {
                if (part.chars().anyMatch(Character::isLetterOrDigit)) {
                    left.add(title(section) + ": " + part.trim());
                }
            }
        });
        return left;
    }
}
