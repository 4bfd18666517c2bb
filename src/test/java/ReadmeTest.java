import java.io.IOException;
import java.nio.file.Files;
import java.nio.file.Path;
import java.util.regex.Matcher;
import java.util.regex.Pattern;

/** The calls in README.md have the answers that stand behind them. */
public final class ReadmeTest {
  private static final Check CHECK = new Check();
  private static final Pattern CALL =
      Pattern.compile("log\\.(\\w+\\(.*?\\)); *(?:// (?:throws (\\w+)Exception|(-?\\d+))(?::.*)?)?");

  public static void main(String[] args) throws IOException {
    int number = 0;
    int calls = 0;
    Edge example = null;
    for (String line : Files.readAllLines(Path.of("README.md"))) {
      number++;
      Matcher call = CALL.matcher(line);
      if (line.equals("PromiseLog log = new PromiseLog();")) {
        example = new Edge(CHECK, "README.md:" + number);
        example.quote("README.md", "");
      } else if (line.startsWith("```") && example != null) {
        example.run();
        example = null;
      } else if (example != null && call.matches()) {
        calls++;
        example.add(call.group(1) + due(call));
      } else if (example != null) {
        CHECK.say("README.md:" + number + " can't be read: " + line);
      }
    }
    CHECK.due("there are examples", calls > 0 ? 1 : 0, 1);
    CHECK.end();
  }

  private static String due(Matcher call) {
    if (call.group(2) != null) {
      return " throws " + call.group(2);
    }
    return call.group(3) == null ? "" : " = " + call.group(3);
  }
}
