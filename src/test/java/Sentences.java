import java.io.IOException;
import java.nio.file.Files;
import java.nio.file.Path;
import java.util.ArrayList;
import java.util.LinkedHashMap;
import java.util.List;
import java.util.Map;
import java.util.regex.Matcher;
import java.util.regex.Pattern;

/** What the document promises, by sections, and which words of it some test has taken up. */
final class Sentences {
  private static final Path DOCUMENT = Path.of("../shared/DOC.md");
  private static final Pattern TERMS = Pattern.compile("==== (\\d+)\\. .*");
  private static final Pattern PROMISE = Pattern.compile("## Promise (\\d+): .*");
  private static final Pattern SIGNATURE = Pattern.compile("^`[^`]*`: ");

  private final Map<String, String> words = new LinkedHashMap<>();
  private final Map<String, boolean[]> taken = new LinkedHashMap<>();

  Sentences() throws IOException {
    String section = null;
    for (String line : Files.readAllLines(DOCUMENT)) {
      String heading = headingOf(line);
      if (heading != null) {
        section = heading;
      }
      if (line.startsWith("## Not promised")) {
        break;
      }
      boolean says = section != null && !line.startsWith("```") && !line.startsWith("#")
          && !line.startsWith("====");
      if (says && !line.isBlank()) {
        words.merge(section, SIGNATURE.matcher(line.trim()).replaceFirst(""), (a, b) -> a + " " + b);
      }
    }
    words.forEach((name, text) -> taken.put(name, new boolean[text.length()]));
  }

  private static String headingOf(String line) {
    Matcher terms = TERMS.matcher(line);
    if (terms.matches()) {
      return "Terms " + terms.group(1);
    }
    Matcher promise = PROMISE.matcher(line);
    if (promise.matches()) {
      return "Promise " + promise.group(1);
    }
    if (line.startsWith("REFUSALS (")) {
      return "REFUSALS";
    }
    if (line.startsWith("An object is used")) {
      return "Use";
    }
    return line.startsWith("#") || line.startsWith("```java") ? "Headings" : null;
  }

  /** Takes up a sentence, where it stands first that isn't taken yet: whether the section has it. */
  boolean take(String section, String sentence) {
    String text = words.getOrDefault(section, "");
    int at = text.indexOf(sentence);
    for (int next = at; next >= 0; next = text.indexOf(sentence, next + 1)) {
      if (!isTaken(section, next, sentence.length())) {
        at = next;
        break;
      }
    }
    if (at < 0) {
      return false;
    }
    for (int i = at; i < at + sentence.length(); i++) {
      taken.get(section)[i] = true;
    }
    return true;
  }

  private boolean isTaken(String section, int at, int length) {
    for (int i = at; i < at + length; i++) {
      if (!taken.get(section)[i]) {
        return false;
      }
    }
    return true;
  }

  /** What no test has taken up, signs between sentences aside. */
  List<String> left() {
    List<String> left = new ArrayList<>();
    words.forEach((section, text) -> {
      StringBuilder rest = new StringBuilder();
      for (int i = 0; i < text.length(); i++) {
        rest.append(taken.get(section)[i] ? '\n' : text.charAt(i));
      }
      for (String piece : rest.toString().split("\n+")) {
        if (!section.equals("Headings") && piece.matches(".*\\w.*")) {
          left.add(section + ": " + piece.trim());
        }
      }
    });
    return left;
  }

  int promises() {
    return (int) words.keySet().stream().filter(s -> s.startsWith("Promise ")).count();
  }
}
