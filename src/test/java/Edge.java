import java.lang.reflect.Method;
import java.util.ArrayList;
import java.util.Arrays;
import java.util.HashMap;
import java.util.List;
import java.util.Map;
import java.util.Set;
import java.util.regex.Matcher;
import java.util.regex.Pattern;

/**
 * One test of src/test/edges: the sentences of the document that it is for, and lines of calls on a new object
 * (README.md tells their form). PromiseLog and Model must both give the answers that are due.
 */
final class Edge {
  private static final Pattern CALL = Pattern.compile("(?:(\\d+) x )?(\\w+)\\((.*?)\\)(?: (=|throws) (.+))?");
  private static final Pattern SCRIPT = Pattern.compile("(text|script) (.*\")(?: (=|fails) ([-\\d ]+))?");
  private static final Pattern PART = Pattern.compile("(?:(\\d+)\\*)?\"((?:[^\"\\\\]|\\\\.)*)\" *");
  private static final Pattern OUTPUT = Pattern.compile("output = \"(.*)\"");
  private static final Pattern MEMORY = Pattern.compile("(remember|is|is not) (\\w+)");
  private static final Set<String> ACTS = Set.of("append", "join", "leave", "read", "promise", "move", "fork",
      "merge", "drop", "pass");
  private static final Map<String, Set<String>> CHANGES = Map.of(
      "set", Set.of(Picture.SETTINGS), "write", Set.of(Picture.OUTPUT),
      "undo", Set.of(Picture.KEPT, Picture.UNDOABLE), "restore", Set.of(Picture.KEPT, Picture.UNDOABLE),
      "runScript", Set.of(Picture.KEPT, Picture.UNDOABLE, Picture.ACCOUNTS, Picture.DELIVERY, Picture.ERROR),
      "read", Set.of(Picture.KEPT, Picture.UNDOABLE, Picture.ACCOUNTS, Picture.DELIVERY));
  private static final Set<String> CHANGES_OF_ACTS = Set.of(Picture.KEPT, Picture.UNDOABLE, Picture.ACCOUNTS);

  /** A heading of the document, and words that stand under it. */
  record Quote(String section, String text) {}

  final String place;
  final List<Quote> quotes = new ArrayList<>();
  private final List<String> lines = new ArrayList<>();
  private final Check check;
  private final PromiseLog log = new PromiseLog();
  private final Model model = new Model();
  private final Map<String, String> remembered = new HashMap<>();
  private int textLength;

  Edge(Check check, String place) {
    this.check = check;
    this.place = place;
  }

  void quote(String section, String text) {
    quotes.add(new Quote(section, text));
  }

  boolean hasLines() {
    return !lines.isEmpty();
  }

  void add(String line) {
    lines.add(line);
  }

  void run() {
    boolean hasDue = false;
    for (String line : lines) {
      hasDue |= line.contains("=") || line.contains(" throws ") || line.contains(" fails ") || line.startsWith("is ");
      runLine(line);
    }
    if (!hasDue) {
      fault("no line", "nothing is due");
    }
  }

  private void fault(String line, String text) {
    check.say(place + " (" + quotes.get(0).section + "), " + line + ": " + text);
  }

  private void runLine(String line) {
    Matcher call = CALL.matcher(line);
    Matcher script = SCRIPT.matcher(line);
    Matcher output = OUTPUT.matcher(line);
    Matcher memory = MEMORY.matcher(line);
    if (call.matches()) {
      runCalls(line, call);
    } else if (script.matches()) {
      runText(line, script);
    } else if (output.matches()) {
      dueOutput(line, output.group(1));
    } else if (memory.matches()) {
      remember(line, memory.group(1), memory.group(2));
    } else {
      fault(line, "this line can't be read");
    }
  }

  // ---- calls

  private void runCalls(String line, Matcher call) {
    Method method = Runs.named(call.group(2));
    List<Object[]> all = arguments(method, call.group(3));
    int times = call.group(1) == null ? 1 : Integer.parseInt(call.group(1));
    String[] due = call.group(5) == null ? new String[0] : call.group(5).trim().split(" +");
    boolean isThrow = "throws".equals(call.group(4));
    if (due.length > 1 && due.length != all.size() * times) {
      fault(line, all.size() * times + " calls, but " + due.length + " answers");
      return;
    }
    int done = 0;
    for (int time = 0; time < times; time++) {
      for (Object[] arguments : all) {
        String want = due.length == 0 ? null : due[due.length == 1 ? 0 : done];
        ask(line, method, arguments, isThrow ? "throws java.lang." + want + "Exception" : want);
        done++;
      }
    }
  }

  /** All calls that the alternatives of a list of arguments make, the last argument running first. */
  private static List<Object[]> arguments(Method method, String text) {
    Class<?>[] kinds = method.getParameterTypes();
    String[] parts = text.isEmpty() ? new String[0] : text.split(",");
    if (parts.length != kinds.length) {
      throw new IllegalStateException(method.getName() + "(" + text + ")");
    }
    List<Object[]> all = new ArrayList<>();
    all.add(new Object[kinds.length]);
    for (int index = 0; index < kinds.length; index++) {
      List<Object[]> longer = new ArrayList<>();
      for (Object[] begun : all) {
        for (Object value : alternatives(kinds[index], parts[index].trim())) {
          Object[] next = begun.clone();
          next[index] = value;
          longer.add(next);
        }
      }
      all = longer;
    }
    return all;
  }

  private static List<Object> alternatives(Class<?> kind, String text) {
    List<Object> values = new ArrayList<>();
    for (String word : text.split(" +")) {
      int dots = word.indexOf("..");
      if (kind == boolean.class) {
        values.add(Boolean.valueOf(word));
      } else if (dots < 0) {
        values.add(number(word));
      } else {
        for (int value = number(word.substring(0, dots)); value <= number(word.substring(dots + 2)); value++) {
          values.add(value);
        }
      }
    }
    return values;
  }

  private static int number(String word) {
    return word.equals("MIN") ? Integer.MIN_VALUE
        : word.equals("MAX") ? Integer.MAX_VALUE : (int) (long) Long.decode(word);
  }

  /** Without an answer that is due, a call must neither throw nor be refused. */
  private void ask(String line, Method method, Object[] arguments, String want) {
    String call = method.getName() + Arrays.toString(arguments);
    Map<String, String> before = Picture.whole(log, textLength);
    Object got = Runs.answer(log, method, arguments);
    Object other = Runs.answer(model, method, arguments);
    boolean isThrown = got instanceof String;
    boolean isRefused = !isThrown && ACTS.contains(method.getName()) && (Integer) got <= -11;
    if (got == null ? other != null : !got.equals(other)) {
      fault(line, call + " answered " + got + ", but Model answered " + other);
    }
    if (want == null ? isThrown || isRefused : !isAsDue(got, want)) {
      fault(line, call + " answered " + got + (want == null ? "" : ", due is " + want));
    }
    if (!isThrown) {
      followText(method.getName(), got);
    }
    compare(line, before, mayChange(method.getName(), isThrown, isRefused));
    if (!isThrown && ACTS.contains(method.getName())) {
      checkCounts(line, before, isRefused ? -10 - (Integer) got : 0);
    }
  }

  /** An act that was done can be undone, and a refusal changes its own account alone. */
  private void checkCounts(String line, Map<String, String> before, int reason) {
    String due = counted(before.get(Picture.ACCOUNTS), reason);
    Map<String, String> then = Picture.whole(log, textLength);
    if (!then.get(Picture.ACCOUNTS).equals(due)) {
      fault(line, "the accounts are " + then.get(Picture.ACCOUNTS) + ", due is " + due);
    }
    int undoable = Integer.parseInt(before.get(Picture.UNDOABLE).trim());
    if (log.count(16) != (reason == 0 ? Math.min(8, undoable + 1) : undoable)) {
      fault(line, "count(16) is " + log.count(16) + ", and was " + undoable);
    }
  }

  private static boolean isAsDue(Object got, String want) {
    if (got instanceof Integer number) {
      return !want.startsWith("throws") && number == number(want);
    }
    if (got instanceof Double real) {
      return real == quotient(want);
    }
    if (got instanceof Float real) {
      int slash = want.indexOf('/');
      return real == (slash < 0 ? Float.parseFloat(want)
          : Float.parseFloat(want.substring(0, slash)) / Float.parseFloat(want.substring(slash + 1)));
    }
    return want.equals(got);
  }

  private static double quotient(String want) {
    int slash = want.indexOf('/');
    return slash < 0 ? Double.parseDouble(want)
        : Double.parseDouble(want.substring(0, slash)) / Double.parseDouble(want.substring(slash + 1));
  }

  private void followText(String name, Object got) {
    if (name.equals("appendText") || name.equals("truncateText")) {
      textLength = (Integer) got;
    }
    textLength = name.equals("runScript") ? 0 : textLength;
  }

  // ---- what a call may change

  private static Set<String> mayChange(String name, boolean isThrown, boolean isRefused) {
    if (isThrown) {
      return Set.of();
    }
    if (isRefused) {
      return Set.of(Picture.ACCOUNTS);
    }
    return CHANGES.getOrDefault(name, ACTS.contains(name) ? CHANGES_OF_ACTS : Set.of());
  }

  private void compare(String line, Map<String, String> before, Set<String> mayChange) {
    Map<String, String> then = Picture.whole(log, textLength);
    for (String part : before.keySet()) {
      if (!mayChange.contains(part) && !before.get(part).equals(then.get(part))) {
        fault(line, "changed the " + part + " from " + before.get(part) + " to " + then.get(part));
      }
    }
  }

  private static String counted(String accounts, int what) {
    String[] numbers = accounts.trim().split(" ");
    StringBuilder text = new StringBuilder();
    for (int i = 0; i < numbers.length; i++) {
      text.append(Integer.parseInt(numbers[i]) + (i == what ? 1 : 0)).append(' ');
    }
    return text.toString();
  }

  // ---- texts, outputs, pictures

  private void runText(String line, Matcher script) {
    String text = text(script.group(2));
    ask(line, Runs.named("truncateText"), new Object[] {0}, "0");
    for (int at = 0; at < text.length(); at += 4) {
      int four = 0;
      for (int i = at; i < at + 4; i++) {
        four = four << 8 | (i < text.length() ? text.charAt(i) : ' ') & 255;
      }
      ask(line, Runs.named("appendText"), new Object[] {four}, null);
    }
    ask(line, Runs.named("truncateText"), new Object[] {text.length()}, null);
    if (script.group(1).equals("text")) {
      return;
    }
    String[] due = script.group(4).trim().split(" +");
    boolean isFault = script.group(3).equals("fails");
    String before = Picture.kept(log);
    ask(line, Runs.named("runScript"), new Object[] {}, isFault ? "-1" : due[0]);
    ask(line, Runs.named("errorCode"), new Object[] {}, isFault ? due[0] : "0");
    ask(line, Runs.named("errorPosition"), new Object[] {}, isFault ? due[1] : "-1");
    if (isFault && !Picture.kept(log).equals(before)) {
      fault(line, "something was done");
    }
  }

  private static String text(String parts) {
    StringBuilder text = new StringBuilder();
    Matcher part = PART.matcher(parts);
    int end = 0;
    while (part.find() && part.start() == end) {
      int times = part.group(1) == null ? 1 : Integer.parseInt(part.group(1));
      text.append(unescaped(part.group(2)).repeat(times));
      end = part.end();
    }
    if (end != parts.length()) {
      throw new IllegalStateException(parts);
    }
    return text.toString();
  }

  private static String unescaped(String text) {
    StringBuilder plain = new StringBuilder();
    for (int at = 0; at < text.length(); at++) {
      char sign = text.charAt(at);
      if (sign != '\\') {
        plain.append(sign);
      } else if (text.charAt(++at) == 'n') {
        plain.append('\n');
      } else {
        // \xHH
        plain.append((char) Integer.parseInt(text.substring(at + 1, at + 3), 16));
        at += 2;
      }
    }
    return plain.toString();
  }

  private void dueOutput(String line, String due) {
    String got = Check.output(log);
    if (!got.equals(due)) {
      fault(line, "the output is " + got);
    }
  }

  private void remember(String line, String what, String name) {
    String picture = Picture.kept(log);
    if (what.equals("remember")) {
      remembered.put(name, picture);
    } else if (picture.equals(remembered.get(name)) != what.equals("is")) {
      fault(line, "now it is " + picture + "\n  and " + name + " was " + remembered.get(name));
    }
  }
}
