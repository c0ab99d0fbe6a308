import java.io.IOException;
import java.nio.file.Files;
import java.nio.file.Path;
import java.util.Arrays;
import java.util.List;
import java.util.regex.Matcher;
import java.util.regex.Pattern;
import java.util.stream.Stream;

/** README.md: its example goes as it says, and it names every call of the face and every test. */
public final class ReadmeTest {
  private static final Pattern EXAMPLE = Pattern.compile("(?s)```java\n(.*?)```");
  private static final Pattern LINE = Pattern.compile("lock\\.(\\w+)\\(([^)]*)\\);\\s*// (-?\\d+)(?:: .*)?");
  private static final Check c = new Check();

  public static void main(String[] args) throws IOException {
    String page = Files.readString(Path.of("README.md"));
    example(page);
    calls(page);
    tests(page);
    c.finish();
  }

  private static void holds(String what, boolean is) {
    c.due(what, is ? 1 : 0, 1);
  }

  private static void example(String page) {
    c.on("README.md, the example");
    Matcher block = EXAMPLE.matcher(page);
    if (!block.find()) {
      holds("there is one", false);
      return;
    }
    List<String> lines = block.group(1).lines().filter(line -> !line.isBlank()).toList();
    holds("it begins with a new object", lines.get(0).startsWith("ThriftLock lock = new ThriftLock();"));
    ThriftLock lock = new ThriftLock();
    for (String line : lines.subList(1, lines.size())) {
      Matcher m = LINE.matcher(line);
      holds("a call with its answer: " + line, m.matches());
      if (m.matches()) {
        Call call = new Call(m.group(1), numbers(m.group(2)));
        c.due(call.toString(), call.on(lock), Long.parseLong(m.group(3)));
      }
    }
  }

  private static int[] numbers(String with) {
    return with.isBlank() ? new int[0] : Arrays.stream(with.split(", ")).mapToInt(Integer::parseInt).toArray();
  }

  private static void calls(String page) {
    c.on("README.md, the calls");
    for (String call : new Document().calls()) {
      String bare = call.replaceAll("\\b(int|long) ", "");
      holds("names " + bare, page.contains("`" + bare + "`"));
    }
  }

  private static void tests(String page) throws IOException {
    c.on("README.md, the tests");
    holds("says how to run them", page.contains("\n    .ci/run\n"));
    try (Stream<Path> files = Files.list(Path.of("src/test/java"))) {
      for (Path file : files.toList()) {
        String name = file.getFileName().toString().replace(".java", "");
        holds("names " + name, page.contains("`" + name + "`"));
      }
    }
  }
}
