import java.io.IOException;
import java.nio.file.Files;
import java.nio.file.Path;
import java.util.ArrayList;
import java.util.List;
import java.util.regex.Matcher;
import java.util.regex.Pattern;
import java.util.stream.Stream;

/**
 * The sentences of the document, each with tests of its own in src/test/edges. Each test quotes what it is for, and
 * the document is asked whether it says so, lest a test outlives its sentence or a sentence is without a test.
 */
public final class EdgesTest {
  private static final Check CHECK = new Check();
  private static final Path EDGES = Path.of("src/test/edges");
  // FaceTest asks for the signatures and for what stands ahead of the calls.
  private static final Pattern SIGNATURE = Pattern.compile("(?:\\w+ )?\\w+\\([^)]*\\)(?: throws [\\w, ]+)?: ");
  private static final Pattern NO_SENTENCE =
      Pattern.compile("## .*|[A-Z ]*|text|Ahead of the calls .*|- \\w+: a (branch|reader)");

  public static void main(String[] args) throws IOException {
    List<Edge> edges = new ArrayList<>();
    try (Stream<Path> files = Files.list(EDGES)) {
      for (Path file : files.sorted().toList()) {
        read(file, edges);
      }
    }
    for (Edge edge : edges) {
      edge.run();
    }
    Document document = new Document();
    if (document.isThere()) {
      checkQuotes(document, edges);
    }
    System.out.println(edges.size() + " tests of edges");
    CHECK.end();
  }

  private static void read(Path file, List<Edge> edges) throws IOException {
    int number = 0;
    Edge edge = null;
    for (String line : Files.readAllLines(file)) {
      number++;
      String plain = line.strip();
      if (plain.startsWith("# ")) {
        if (edge == null || edge.hasLines()) {
          edge = new Edge(CHECK, file.getFileName() + ":" + number);
          edges.add(edge);
        }
        int bar = plain.indexOf(" | ");
        edge.quote(plain.substring(2, bar), plain.substring(bar + 3));
      } else if (!plain.isEmpty() && !plain.startsWith("//")) {
        edge.add(plain);
      }
    }
  }

  // ---- the document

  private static void checkQuotes(Document document, List<Edge> edges) {
    for (Edge edge : edges) {
      for (Edge.Quote quote : edge.quotes) {
        if (!document.section(quote.section()).contains(quote.text())) {
          CHECK.say(edge.place + ": the document doesn't say under " + quote.section() + ": " + quote.text());
        }
      }
    }
    for (String name : document.names()) {
      if (name.equals("Terms") || name.startsWith("Promise ")) {
        checkQuoted(name, document.section(name), edges);
      }
    }
  }

  /** Every word that says what is due is quoted by a test. */
  private static void checkQuoted(String name, String text, List<Edge> edges) {
    boolean[] isQuoted = new boolean[text.length()];
    for (Edge edge : edges) {
      for (Edge.Quote quote : edge.quotes) {
        if (quote.section().equals(name)) {
          mark(text, quote.text(), isQuoted);
        }
      }
    }
    int start = 0;
    for (String line : text.split("\n")) {
      Matcher signature = SIGNATURE.matcher(line);
      int from = signature.lookingAt() ? signature.end() : 0;
      if (!NO_SENTENCE.matcher(line.substring(from)).matches()) {
        checkLine(name, line, from, start, isQuoted);
      }
      start += line.length() + 1;
    }
  }

  private static void mark(String text, String quote, boolean[] isQuoted) {
    for (int at = text.indexOf(quote); at >= 0; at = text.indexOf(quote, at + 1)) {
      for (int index = at; index < at + quote.length(); index++) {
        isQuoted[index] = true;
      }
    }
  }

  private static void checkLine(String name, String line, int from, int start, boolean[] isQuoted) {
    StringBuilder missing = new StringBuilder();
    for (int index = from; index < line.length(); index++) {
      missing.append(isQuoted[start + index] ? '\n' : line.charAt(index));
    }
    for (String words : missing.toString().split("\n+")) {
      if (words.matches(".*[A-Za-z].*")) {
        CHECK.say("no test quotes what stands under " + name + ": " + words.strip());
      }
    }
  }
}
