import java.io.IOException;
import java.nio.file.Files;
import java.nio.file.Path;
import java.util.LinkedHashMap;
import java.util.List;
import java.util.Map;

/** The document: what stands under each heading, without back quotes, line by line. */
final class Document {
  private static final Path FILE = Path.of("../shared/DOC.md");
  private final Map<String, String> sections = new LinkedHashMap<>();

  /** Without the file there is nothing to compare with, and no section. */
  Document() throws IOException {
    String name = "";
    for (String line : Files.exists(FILE) ? Files.readAllLines(FILE) : List.<String>of()) {
      if (line.startsWith("## ")) {
        int colon = line.indexOf(':');
        name = line.substring(3, colon < 0 ? line.length() : colon);
      }
      sections.merge(name, line.replace("`", "").strip(), (before, more) -> before + "\n" + more);
    }
  }

  boolean isThere() {
    return !sections.isEmpty();
  }

  Iterable<String> names() {
    return sections.keySet();
  }

  String section(String name) {
    return sections.getOrDefault(name, "");
  }
}
