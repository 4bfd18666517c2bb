import java.io.IOException;
import java.lang.reflect.Field;
import java.lang.reflect.Method;
import java.lang.reflect.Modifier;
import java.nio.file.Files;
import java.nio.file.Path;
import java.util.Arrays;
import java.util.List;
import java.util.Set;
import java.util.TreeSet;
import java.util.regex.Matcher;
import java.util.regex.Pattern;

/** The class's face is the one of the document, and the file keeps to the rules that a text can show. */
public final class FaceTest {
  private static final Check CHECK = new Check();
  private static final Pattern HEADING = Pattern.compile("Ahead of the calls (.*) the interface says: (---- .*)\\.");
  private static final Pattern NAME = Pattern.compile("public \\w+ (\\w+)\\(");
  private static final String[] FACE = {
    "int appendText(int) IllegalStateException",
    "int truncateText(int) IllegalArgumentException",
    "int runScript()", "int errorCode()", "int errorPosition()",
    "int set(int,int) IllegalArgumentException",
    "int count(int) IllegalArgumentException",
    "int branch(int,int) IndexOutOfBoundsException IllegalArgumentException",
    "int entry(int,int,int) IndexOutOfBoundsException IllegalArgumentException",
    "int reader(int,int) IndexOutOfBoundsException IllegalArgumentException",
    "int debt(int,int) IndexOutOfBoundsException IllegalArgumentException",
    "int debtOf(int,int) IndexOutOfBoundsException IllegalArgumentException",
    "int item(int,int) IndexOutOfBoundsException IllegalArgumentException",
    "int account(int) IllegalArgumentException",
    "int append(int,int,int,int) IndexOutOfBoundsException IllegalArgumentException",
    "int join(int,boolean) IndexOutOfBoundsException",
    "int leave(int) IndexOutOfBoundsException",
    "int read(int,int) IndexOutOfBoundsException IllegalArgumentException",
    "int promise(int,int) IndexOutOfBoundsException IllegalArgumentException",
    "int move(int,int) IndexOutOfBoundsException",
    "int fork(int) IndexOutOfBoundsException",
    "int merge(int) IndexOutOfBoundsException",
    "int drop(int) IndexOutOfBoundsException",
    "int pass(int) IllegalArgumentException",
    "int common(int,int) IndexOutOfBoundsException",
    "int holder(int) IndexOutOfBoundsException",
    "int slowest(int) IndexOutOfBoundsException",
    "int cause(int) IndexOutOfBoundsException",
    "int latest(int,int) IndexOutOfBoundsException IllegalArgumentException",
    "double mean(int) IndexOutOfBoundsException",
    "float trust(int) IndexOutOfBoundsException",
    "int ahead(int,int) IllegalArgumentException",
    "int losesIn(int,int) IndexOutOfBoundsException IllegalArgumentException",
    "int wouldCut(int,int) IndexOutOfBoundsException IllegalArgumentException",
    "int unread(int,int) IndexOutOfBoundsException IllegalArgumentException",
    "int promised(int) IndexOutOfBoundsException",
    "int age(int) IndexOutOfBoundsException",
    "int write(int) IndexOutOfBoundsException",
    "int output(int)", "int undo()",
    "void save(int) IllegalArgumentException",
    "void restore(int) IllegalArgumentException IllegalStateException",
  };

  public static void main(String[] args) throws IOException {
    face();
    members();
    source();
    document();
    CHECK.end();
  }

  private static void face() {
    Set<String> due = new TreeSet<>(Arrays.asList(FACE));
    Set<String> got = new TreeSet<>();
    Set<String> names = new TreeSet<>();
    for (Method method : PromiseLog.class.getDeclaredMethods()) {
      if (Modifier.isPublic(method.getModifiers())) {
        got.add(line(method));
        names.add(method.getName());
      }
    }
    if (!due.equals(got)) {
      CHECK.say("the face is " + got + ", due is " + due);
    }
    for (Method method : PromiseLog.class.getDeclaredMethods()) {
      if (!Modifier.isPublic(method.getModifiers()) && names.contains(method.getName())) {
        CHECK.say("a private method bears the name of a public one: " + method.getName());
      }
    }
  }

  private static String line(Method method) {
    StringBuilder text = new StringBuilder(method.getReturnType() + " " + method.getName() + "(");
    Class<?>[] kinds = method.getParameterTypes();
    for (int i = 0; i < kinds.length; i++) {
      text.append(i == 0 ? "" : ",").append(kinds[i]);
    }
    text.append(")");
    for (Class<?> thrown : method.getExceptionTypes()) {
      text.append(" ").append(thrown.getSimpleName());
    }
    return text.toString();
  }

  private static void members() {
    int modifiers = PromiseLog.class.getModifiers();
    CHECK.due("public and final", Modifier.isPublic(modifiers) && Modifier.isFinal(modifiers) ? 1 : 0, 1);
    CHECK.due("public constructors", PromiseLog.class.getConstructors().length, 1);
    CHECK.due("constructors", PromiseLog.class.getDeclaredConstructors().length, 1);
    List<String> constants = Arrays.asList("NONE", "VOID");
    for (Field field : PromiseLog.class.getDeclaredFields()) {
      boolean isConstant = constants.contains(field.getName());
      if (isConstant != Modifier.isPublic(field.getModifiers())) {
        CHECK.say("a field is public or not as it should not be: " + field);
      }
      if (!isConstant && !Modifier.isPrivate(field.getModifiers())) {
        CHECK.say("a field is not private: " + field);
      }
      if (Modifier.isStatic(field.getModifiers()) && !Modifier.isFinal(field.getModifiers())) {
        CHECK.say("a static field is not final: " + field);
      }
    }
    CHECK.due("NONE", PromiseLog.NONE, -1);
    CHECK.due("VOID", PromiseLog.VOID, -1000);
  }

  private static void source() throws IOException {
    List<String> lines = Files.readAllLines(Path.of("src/main/java/PromiseLog.java"));
    String[] forbidden = {"import ", "package ", " try ", "catch", "->", "::", "instanceof", "synchronized",
      "assert ", "finally", "Exact", "Random", "System.nanoTime", "System.currentTimeMillis", "System.out"};
    int classes = 0;
    int begun = 0;
    for (int n = 0; n < lines.size(); n++) {
      String line = lines.get(n);
      for (String word : forbidden) {
        if (line.contains(word)) {
          CHECK.say("line " + (n + 1) + " has '" + word + "'");
        }
      }
      for (int i = 0; i < line.length(); i++) {
        if (line.charAt(i) < ' ' || line.charAt(i) > '~') {
          CHECK.say("line " + (n + 1) + " has a sign outside of ASCII");
        }
      }
      classes += line.matches(".*\\b(class|enum|interface|record) [A-Z].*\\{") ? 1 : 0;
      if (line.matches(" {2,4}[a-zA-Z].*\\) ?.*\\{")) {
        begun = n;
      }
      if (line.matches(" {2,4}\\}") && n - begun > 60) {
        CHECK.say("the method at line " + (begun + 1) + " has more than sixty lines");
      }
    }
    CHECK.due("at most twelve classes", classes <= 12 ? 1 : 0, 1);
  }

  // ---- the document

  /** Each line of the document's face stands in the class, with the names of its parameters, in the same order. */
  private static void document() throws IOException {
    Document document = new Document();
    if (!document.isThere()) {
      return;
    }
    String source = Files.readString(Path.of("src/main/java/PromiseLog.java")).replaceAll("\\s+", " ");
    int at = 0;
    int lines = 0;
    for (String line : document.section("The public face").split("\n")) {
      if (line.startsWith("public ")) {
        boolean isDone = line.contains("=") || line.endsWith("{");
        String due = isDone ? line : line.substring(0, line.length() - 1) + " {";
        int found = source.indexOf(due, at);
        if (found < 0) {
          CHECK.say("the class has not, or not at this place: " + due);
        }
        at = Math.max(at, found);
        lines++;
      }
    }
    CHECK.due("lines of the face", lines, FACE.length + 4);
    headings(document, source);
  }

  /** "Ahead of the calls a, b, c the interface says: ---- words." */
  private static void headings(Document document, String source) {
    int headings = 0;
    for (String line : document.section("Terms").split("\n")) {
      Matcher said = HEADING.matcher(line);
      if (said.matches()) {
        headings++;
        int from = source.indexOf("// " + said.group(2) + " public ");
        int to = source.indexOf("// ----", from + 1);
        String part = from < 0 || to < 0 ? "" : source.substring(from, to);
        StringBuilder names = new StringBuilder();
        for (Matcher name = NAME.matcher(part); name.find();) {
          names.append(names.length() == 0 ? "" : ", ").append(name.group(1));
        }
        if (!names.toString().equals(said.group(1))) {
          CHECK.say("behind " + said.group(2) + " stand " + names + ", due is " + said.group(1));
        }
      }
    }
    CHECK.due("headings of the face", headings, 6);
  }
}
