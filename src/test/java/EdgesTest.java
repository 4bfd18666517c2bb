import java.io.IOException;
import java.nio.file.Files;
import java.nio.file.Path;
import java.util.ArrayList;
import java.util.HashMap;
import java.util.HashSet;
import java.util.List;
import java.util.Map;
import java.util.Set;
import java.util.stream.Stream;

/**
 * The sentences of the document that name a boundary, each with tests of its own in src/test/edges. Each test quotes
 * its sentence, and the document is asked whether it says so, lest a test outlives its sentence.
 */
public final class EdgesTest {
  private static final Check CHECK = new Check();
  private static final Path EDGES = Path.of("src/test/edges");
  private static final Path DOCUMENT = Path.of("../shared/DOC.md");

  public static void main(String[] args) throws IOException {
    List<Edge> edges = new ArrayList<>();
    try (Stream<Path> files = Files.list(EDGES)) {
      for (Path file : files.sorted().toList()) {
        read(file, edges);
      }
    }
    for (Edge edge : edges) {
      edge.run();
    }
    if (Files.exists(DOCUMENT)) {
      checkQuotes(edges);
    }
    System.out.println(edges.size() + " tests of edges");
    CHECK.end();
  }

  private static void read(Path file, List<Edge> edges) throws IOException {
    int number = 0;
    Edge edge = null;
    for (String line : Files.readAllLines(file)) {
      number++;
      String plain = line.strip();
      if (plain.startsWith("# ")) {
        int bar = plain.indexOf(" | ");
        String place = file.getFileName() + ":" + number;
        edge = new Edge(CHECK, place, plain.substring(2, bar), plain.substring(bar + 3));
        edges.add(edge);
      } else if (!plain.isEmpty() && !plain.startsWith("//")) {
        edge.add(plain);
      }
    }
  }

  // ---- the document

  private static void checkQuotes(List<Edge> edges) throws IOException {
    Map<String, String> sections = sections();
    Set<String> quoted = new HashSet<>();
    for (Edge edge : edges) {
      quoted.add(edge.section + " | " + edge.quote);
      String section = sections.get(edge.section);
      if (section == null || !section.contains(edge.quote)) {
        CHECK.say(edge.place + ": the document doesn't say under " + edge.section + ": " + edge.quote);
      }
    }
    for (String section : sections.keySet()) {
      if (section.startsWith("Promise ")) {
        checkQuoted(section, sections.get(section), quoted);
      }
    }
  }

  /** Each promise has a test, and each exception that it names, and the range of each parameter. */
  private static void checkQuoted(String section, String text, Set<String> quoted) {
    if (quoted.stream().noneMatch(title -> title.startsWith(section + " | "))) {
      CHECK.say(section + " has no test");
    }
    for (String line : text.split("\n")) {
      boolean isRange = line.startsWith("- ") && line.matches(".*\\d.*");
      String due = section + " | " + (isRange ? line.substring(2) : line);
      if ((isRange || line.startsWith("Throws ")) && quoted.stream().noneMatch(t -> due.startsWith(t))) {
        CHECK.say("no test quotes " + due);
      }
    }
  }

  /** What stands under each heading, without back quotes, line by line. */
  private static Map<String, String> sections() throws IOException {
    Map<String, String> sections = new HashMap<>();
    String name = "";
    for (String line : Files.readAllLines(DOCUMENT)) {
      if (line.startsWith("## ")) {
        int colon = line.indexOf(':');
        name = line.substring(3, colon < 0 ? line.length() : colon);
      }
      sections.merge(name, line.replace("`", "").strip(), (before, more) -> before + "\n" + more);
    }
    return sections;
  }
}
