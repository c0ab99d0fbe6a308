import java.io.IOException;
import java.nio.file.Files;
import java.nio.file.Path;
import java.util.LinkedHashMap;
import java.util.Map;
import java.util.Set;
import java.util.TreeSet;
import java.util.regex.Matcher;
import java.util.regex.Pattern;

/** The document that the class keeps to, part by part, so that tests can name the sentence they look at. */
final class Document {
  private static final Path PLACE = Path.of("../shared/DOC.md");
  private static final Pattern HEADING = Pattern.compile("(?m)^## (.*)$");
  private static final Pattern REFUSAL = Pattern.compile("\\b(BAD|NOT|FULL|NULL|INDEX|CAST|STORE|SIZE)\\b");

  private final Map<String, String> parts = new LinkedHashMap<>();

  Document() {
    String text = read();
    Matcher heading = HEADING.matcher(text);
    String name = null;
    int from = 0;
    while (heading.find()) {
      keep(name, text.substring(from, heading.start()));
      name = heading.group(1);
      from = heading.end();
    }
    keep(name, text.substring(from));
  }

  private static String read() {
    try {
      return Files.readString(PLACE);
    } catch (IOException e) {
      throw new IllegalStateException("no document at " + PLACE, e);
    }
  }

  /** A promise is kept by its number alone, with its call as the first word of what it says. */
  private void keep(String name, String text) {
    if (name == null) {
      return;
    }
    int colon = name.indexOf(':');
    String key = colon < 0 ? name : name.substring(0, colon);
    String call = colon < 0 ? "" : name.substring(colon + 1) + " ";
    parts.put(key, plain(call + text));
  }

  private static String plain(String text) {
    return text.replaceAll("\\s+", " ").trim();
  }

  boolean says(String part, String sentence) {
    return parts.containsKey(part) && parts.get(part).contains(plain(sentence));
  }

  /** The calls of the public face as they stand there, such as "int head(int h)". */
  Set<String> calls() {
    return allOf("public ((?:int|long) \\w+\\([^)]*\\));");
  }

  /** The constants of the public face, such as "BAD = -2". */
  Set<String> constants() {
    return allOf("([A-Z]+ = -?\\d+)");
  }

  private Set<String> allOf(String pattern) {
    Set<String> found = new TreeSet<>();
    Matcher m = Pattern.compile(pattern).matcher(parts.getOrDefault("The public face", ""));
    while (m.find()) {
      found.add(m.group(1));
    }
    return found;
  }

  String callOf(String part) {
    return parts.getOrDefault(part, "").split(" ", 2)[0];
  }

  Set<String> refusalsOf(String part) {
    Set<String> names = new TreeSet<>();
    Matcher refusal = REFUSAL.matcher(parts.getOrDefault(part, ""));
    while (refusal.find()) {
      names.add(refusal.group());
    }
    return names;
  }
}
