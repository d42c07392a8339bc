import java.io.IOException;
import java.nio.file.Files;
import java.nio.file.Path;
import java.util.ArrayList;
import java.util.LinkedHashMap;
import java.util.List;
import java.util.Map;

/** The sections of ../shared/DOC.md by their headings, each as one line and as the sentences in it. */
final class Document {
    private final Map<String, List<String>> paragraphs = new LinkedHashMap<>();

    Document(Path path) throws IOException {
        String heading = "";
        boolean code = false;
        boolean open = false;
        boolean list = false;
        for (String line : Files.readAllLines(path)) {
            code ^= line.startsWith("```");
            if (code || line.startsWith("```") || line.startsWith("----")) {
                open = false;
            } else if (line.startsWith("#")) {
                heading = line.replaceFirst("^#+ ", "").replaceFirst(":.*", "");
                paragraphs.put(heading, new ArrayList<>());
                open = false;
            } else if (line.isBlank()) {
                open = false;
            } else {
                boolean listed = line.startsWith("- ") || line.startsWith("  ");
                add(heading, line.trim(), open && !listed && !list);
                open = true;
                list = listed;
            }
        }
    }

    private void add(String heading, String line, boolean goesOn) {
        List<String> all = paragraphs.computeIfAbsent(heading, name -> new ArrayList<>());
        if (goesOn) {
            all.set(all.size() - 1, all.get(all.size() - 1) + " " + line);
        } else {
            all.add(line);
        }
    }

    List<String> headings() {
        return List.copyOf(paragraphs.keySet());
    }

    boolean says(String heading, String words) {
        return String.join(" ", paragraphs.getOrDefault(heading, List.of())).contains(words);
    }

    /** What stands between two full stops or semicolons; a signature is none, and a line of a list is one. */
    List<String> sentences(String heading) {
        List<String> all = new ArrayList<>();
        for (String paragraph : paragraphs.getOrDefault(heading, List.of())) {
            if (paragraph.startsWith("- ")) {
                all.add(paragraph);
            } else if (!paragraph.matches("`[^`]*`")) {
                all.addAll(List.of(paragraph.split("(?<=[.;]\\)?) ")));
            }
        }
        return all;
    }
}
