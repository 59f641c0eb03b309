import java.io.IOException;
import java.nio.file.Files;
import java.nio.file.Path;
import java.util.LinkedHashMap;
import java.util.Map;

/**
 * The sentences of DOC.md, and which of them have a test: a test cites its sentence word by word, and
 * a sentence that nobody cites, a citation without a test, or one that the document does not have is
 * not as due.
 */
final class Document {
    private final boolean isThere;
    private final Map<String, StringBuilder> sections = new LinkedHashMap<>();
    private final Map<String, boolean[]> cited = new LinkedHashMap<>();
    private String section = "";
    private String citation = "";
    private int comparedAhead;

    Document(Path file) throws IOException {
        isThere = Files.isReadable(file);
        if (!isThere) {
            // the tests of the class do not need it: only which sentences they leave out stays open
            System.out.println("no document at " + file + ": not compared with what the tests cite");
            return;
        }
        String heading = "";
        boolean isCode = false;
        for (String line : Files.readAllLines(file)) {
            if (line.startsWith("## ")) {
                heading = line.substring(3).replaceAll(":.*", "");
                sections.put(heading, new StringBuilder());
            }
            isCode ^= line.startsWith("```");
            boolean isTold = !isCode && !line.startsWith("#") && !line.startsWith("```")
                    && !line.startsWith("Ahead of the calls") && !line.equals("Sides, pressings");
            if (isTold && !heading.isEmpty()) {
                // a method's own line: FaceTest compares it
                String text = line.replaceAll("^`[^`]*\\([^`]*`: ", "").replaceAll("^- ", "");
                sections.get(heading).append(text).append(text.isEmpty() ? "" : "\n");
            }
        }
        for (String name : sections.keySet()) {
            cited.put(name, new boolean[sections.get(name).length()]);
        }
    }

    void enter(String name) {
        leaveCitation();
        section = name;
        Due.holds("the document has " + name, !isThere || sections.containsKey(name));
    }

    /** What is tested from here on; the first place that bears it and was not cited yet. */
    void cite(String text) {
        leaveCitation();
        citation = text;
        comparedAhead = Due.compared();
        if (!isThere) {
            return;
        }
        StringBuilder in = sections.getOrDefault(section, new StringBuilder());
        int at = in.indexOf(text);
        while (at >= 0 && cited.get(section)[at]) {
            at = in.indexOf(text, at + 1);
        }
        if (at < 0) {
            Due.holds("the document says in " + section + ": " + text, false);
            return;
        }
        for (int i = at; i < at + text.length(); i++) {
            cited.get(section)[i] = true;
        }
    }

    String label() {
        return section + ": " + citation;
    }

    /** All that is told in the sections that tests have to cite has been cited. */
    void end() {
        leaveCitation();
        for (String name : sections.keySet()) {
            if (!name.equals("The public face") && !name.equals("Not promised")) {
                Due.compare("sentences of " + name + " without a test", "", notCited(name));
            }
        }
    }

    private void leaveCitation() {
        if (!citation.isEmpty()) {
            Due.holds(label() + " has a test", Due.compared() > comparedAhead);
        }
        citation = "";
    }

    private String notCited(String name) {
        StringBuilder rest = new StringBuilder();
        StringBuilder in = sections.get(name);
        for (int i = 0; i < in.length(); i++) {
            if (!cited.get(name)[i] && Character.isLetterOrDigit(in.charAt(i))) {
                rest.append(in.charAt(i));
            } else if (rest.length() > 0 && rest.charAt(rest.length() - 1) != ' ') {
                rest.append(' ');
            }
        }
        return rest.toString().trim();
    }
}
