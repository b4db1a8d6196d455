import java.io.IOException;
import java.nio.file.Files;
import java.nio.file.Path;
import java.util.LinkedHashMap;
import java.util.LinkedHashSet;
import java.util.Map;
import java.util.Set;
import java.util.regex.Pattern;

/** The sentences of ../shared/DOC.md by their sections, each on one line and without backquotes. */
final class Document {
  // Who adds a word here makes the sentences with it need a test, and who takes one away lets them go untested.
  private static final Pattern BOUNDARY = Pattern.compile("\\b(throws|at most|at least|between|\\d+ to|initial|initially"
      + "|empty|no|none|not|without|only|once|or more|greater|greatest|round|rounded|latest|earlier|counted from|if"
      + "|as far as|nothing|until|first|within|kept|afterwards|order|can still|included|plus 1|by 1|become 0|except"
      + "|negative|so far)\\b", Pattern.CASE_INSENSITIVE);

  private static final Set<String> NO_BOUNDARIES = Set.of("It is not thread-safe.");

  private final Map<String, Set<String>> sections = new LinkedHashMap<>();

  static Document read() throws IOException {
    return new Document(Files.readString(Path.of("../shared/DOC.md")));
  }

  private Document(String text) {
    for (String section : text.split("(?m)^## ")) {
      int end = section.indexOf('\n');
      String name = section.substring(0, end).split(":")[0];
      sections.put(name, sentences(section.substring(end).replaceAll("(?s)```.*?```", "")));
    }
  }

  private static Set<String> sentences(String text) {
    Set<String> sentences = new LinkedHashSet<>();
    for (String paragraph : text.split("\\n\\s*\\n|\\n(?=- )")) {
      String line = paragraph.replace("`", "").replaceAll("\\s+", " ").trim();
      for (String sentence : line.split("(?<=[.:]) (?=[A-Z])")) {
        boolean signature = sentence.endsWith(":");
        if (!sentence.isEmpty() && !signature) {
          sentences.add(sentence);
        }
      }
    }
    return sentences;
  }

  boolean has(Sentence sentence) {
    return sections.containsKey(sentence.in()) && sections.get(sentence.in()).contains(sentence.says());
  }

  /** The sentences of "Terms" and of the promises that name a boundary, each behind its section. */
  Set<String> boundaries() {
    Set<String> found = new LinkedHashSet<>();
    for (Map.Entry<String, Set<String>> section : sections.entrySet()) {
      if (section.getKey().equals("Terms") || section.getKey().startsWith("Promise ")) {
        for (String sentence : section.getValue()) {
          if (BOUNDARY.matcher(sentence).find() && !NO_BOUNDARIES.contains(sentence)) {
            found.add(section.getKey() + ": " + sentence);
          }
        }
      }
    }
    return found;
  }
}
