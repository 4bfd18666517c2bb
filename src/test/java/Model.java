import java.util.ArrayDeque;
import java.util.ArrayList;
import java.util.Comparator;
import java.util.List;
import java.util.Map;
import java.util.TreeMap;
import java.util.regex.Matcher;
import java.util.regex.Pattern;

/** A second program for the same document, with lists and copies, made to be compared with PromiseLog. */
public final class Model {
  private static final int[][] RANGES = {{1, 400}, {1, 900}, {0, 500}, {0, 99}, {1, 9}, {1, 60}, {0, 1}};

  private record Item(int time, int key, int size, int value) {}

  private record Cut(int position, Item item) {}

  private static final class Line {
    Integer parent;
    int fork = -1;
    int first;
    int cuts;
    List<Item> items = new ArrayList<>();

    int end() {
      return first + items.size();
    }

    int total() {
      return items.stream().mapToInt(Item::size).sum();
    }

    Line copy() {
      Line line = new Line();
      line.parent = parent;
      line.fork = fork;
      line.first = first;
      line.cuts = cuts;
      line.items = new ArrayList<>(items);
      return line;
    }
  }

  private static final class Person {
    int line;
    int place;
    int seen;
    Integer promise;
    int kept;
    int broken;
    int entriesRead;
    int summariesRead;
    List<Cut> debt = new ArrayList<>();

    Person copy() {
      Person person = new Person();
      person.line = line;
      person.place = place;
      person.seen = seen;
      person.promise = promise;
      person.kept = kept;
      person.broken = broken;
      person.entriesRead = entriesRead;
      person.summariesRead = summariesRead;
      person.debt = new ArrayList<>(debt);
      return person;
    }
  }

  private static final class World {
    int time;
    int appended;
    int[] causes = new int[4];
    TreeMap<Integer, Line> lines = new TreeMap<>();
    TreeMap<Integer, Person> people = new TreeMap<>();

    World copy() {
      World world = new World();
      world.time = time;
      world.appended = appended;
      world.causes = causes.clone();
      lines.forEach((number, line) -> world.lines.put(number, line.copy()));
      people.forEach((number, person) -> world.people.put(number, person.copy()));
      return world;
    }
  }

  private final int[] settings = {60, 120, 0, 5, 2, 20, 0};
  private final int[] accounts = new int[11];
  private final World[] slots = new World[2];
  private final ArrayDeque<World> past = new ArrayDeque<>();
  private World world = new World();
  private List<int[]> delivery = new ArrayList<>();
  private String written = "";
  private String text = "";
  private int errorCode;
  private int errorPosition = -1;

  public Model() {
    world.lines.put(0, new Line());
  }

  // ---- help

  private Line line(int number) {
    Line line = world.lines.get(number);
    if (line == null) {
      throw new IndexOutOfBoundsException();
    }
    return line;
  }

  private Person person(int number) {
    Person person = world.people.get(number);
    if (person == null) {
      throw new IndexOutOfBoundsException();
    }
    return person;
  }

  private static void within(int value, int least, int most) {
    if (value < least || value > most) {
      throw new IllegalArgumentException();
    }
  }

  private int refuse(int reason) {
    accounts[reason]++;
    return -10 - reason;
  }

  private void act() {
    accounts[0]++;
    past.addLast(world.copy());
    if (past.size() > 8) {
      past.removeFirst();
    }
  }

  private boolean covered(World in, Person person) {
    return person.promise != null || in.time - person.seen <= settings[3];
  }

  private boolean held(World in, int number, int position) {
    for (Person person : in.people.values()) {
      if (person.line == number && covered(in, person) && person.place <= position) {
        return true;
      }
    }
    return false;
  }

  private int causeIn(World in, int number) {
    Line line = in.lines.get(number);
    if (line.items.isEmpty()) {
      return -1;
    }
    boolean held = held(in, number, line.first);
    long readers = in.people.values().stream().filter(p -> p.line == number).count();
    long behind = in.people.values().stream().filter(p -> p.line == number && p.place > line.first).count();
    boolean[] rules = {
      line.total() > settings[1],
      line.total() > settings[0] && !held,
      settings[2] > 0 && in.time - line.items.get(0).time() > settings[2] && !held,
      settings[6] == 1 && readers > 0 && readers == behind};
    for (int rule = 0; rule < 4; rule++) {
      if (rules[rule]) {
        return rule;
      }
    }
    return -1;
  }

  private int cut(World in, int number) {
    Line line = in.lines.get(number);
    int done = 0;
    for (int cause = causeIn(in, number); cause >= 0; cause = causeIn(in, number)) {
      Item item = line.items.remove(0);
      int position = line.first++;
      line.cuts++;
      in.causes[cause]++;
      done++;
      for (Person person : in.people.values()) {
        if (person.line == number && person.place <= position) {
          person.debt.add(new Cut(position, item));
          person.place = line.first;
        }
      }
    }
    return done;
  }

  private int tick(World in) {
    in.time++;
    for (Person person : in.people.values()) {
      if (person.promise != null && person.promise < in.time) {
        person.promise = null;
        person.broken++;
      }
    }
    int done = 0;
    for (int number : in.lines.keySet()) {
      done += cut(in, number);
    }
    return done;
  }

  private static int[] summary(List<Cut> debt) {
    if (debt.isEmpty()) {
      return new int[] {0, 0, 0, -1000, -1000, -1, -1};
    }
    return new int[] {debt.size(), debt.stream().mapToInt(c -> c.item.size).sum(),
      debt.stream().mapToInt(c -> c.item.value).sum(), debt.stream().mapToInt(c -> c.item.value).min().getAsInt(),
      debt.stream().mapToInt(c -> c.item.value).max().getAsInt(), debt.get(0).position,
      debt.get(debt.size() - 1).position};
  }

  private List<Integer> way(int number) {
    List<Integer> way = new ArrayList<>();
    for (Integer at = number; at != null; at = world.lines.get(at).parent) {
      way.add(at);
    }
    return way;
  }

  private int alike(int one, int other) {
    if (one == other) {
      return world.lines.get(one).end();
    }
    List<Integer> left = way(one);
    List<Integer> right = way(other);
    int meeting = left.stream().filter(right::contains).findFirst().get();
    List<Integer> forks = new ArrayList<>();
    for (int at : left.subList(0, left.indexOf(meeting))) {
      forks.add(world.lines.get(at).fork);
    }
    for (int at : right.subList(0, right.indexOf(meeting))) {
      forks.add(world.lines.get(at).fork);
    }
    return forks.stream().mapToInt(f -> f).min().getAsInt();
  }

  private static int free(Map<Integer, ?> taken) {
    int number = 0;
    while (taken.containsKey(number)) {
      number++;
    }
    return number;
  }

  private int children(int number) {
    return (int) world.lines.values().stream().filter(l -> l.parent != null && l.parent == number).count();
  }

  private int readers(int number) {
    return (int) world.people.values().stream().filter(p -> p.line == number).count();
  }

  // ---- scripts

  public int appendText(int fourBytes) {
    if (text.length() + 4 > 700) {
      throw new IllegalStateException();
    }
    for (int shift = 24; shift >= 0; shift -= 8) {
      text += (char) (fourBytes >> shift & 255);
    }
    return text.length();
  }

  public int truncateText(int length) {
    within(length, 0, text.length());
    text = text.substring(0, length);
    return length;
  }

  private record Token(String text, int start) {}

  private static final class Wrong extends Exception {
    private static final long serialVersionUID = 1;
    final int code;
    final int position;

    Wrong(int code, int position) {
      this.code = code;
      this.position = position;
    }
  }

  private static List<Token> tokens(String text) {
    List<Token> tokens = new ArrayList<>();
    Matcher matcher = Pattern.compile("[a-z]+|[0-9]+|[^ \n]", Pattern.DOTALL).matcher(text);
    while (matcher.find()) {
      tokens.add(new Token(matcher.group(), matcher.start()));
    }
    return tokens;
  }

  private static final Map<String, int[][]> COMMANDS = Map.of(
      "append", new int[][] {{0, 3}, {0, 9}, {1, 9}, {-99, 99}}, "join", new int[][] {{0, 3}},
      "read", new int[][] {{0, 5}, {1, 99}}, "promise", new int[][] {{0, 5}, {1, 60}},
      "move", new int[][] {{0, 5}, {0, 3}}, "leave", new int[][] {{0, 5}}, "fork", new int[][] {{0, 3}},
      "merge", new int[][] {{0, 3}}, "drop", new int[][] {{0, 3}}, "ticks", new int[][] {{1, 99}});

  private static String take(List<Token> tokens, int length, String form) throws Wrong {
    if (tokens.isEmpty()) {
      throw new Wrong(1, length);
    }
    if (!tokens.get(0).text.matches(form)) {
      throw new Wrong(1, tokens.get(0).start);
    }
    return tokens.remove(0).text;
  }

  private static List<String[]> parse(String text) throws Wrong {
    List<Token> tokens = tokens(text);
    List<String[]> commands = new ArrayList<>();
    int length = text.length();
    while (!tokens.isEmpty()) {
      int start = tokens.get(0).start;
      String word = take(tokens, length, String.join("|", COMMANDS.keySet()));
      if (commands.size() == 60) {
        throw new Wrong(3, start);
      }
      List<String> command = new ArrayList<>(List.of(word));
      for (int[] range : COMMANDS.get(word)) {
        boolean minus = range[0] < 0 && !tokens.isEmpty() && tokens.get(0).text.equals("-");
        if (minus) {
          tokens.remove(0);
        }
        int at = tokens.isEmpty() ? 0 : tokens.get(0).start;
        String digits = take(tokens, length, "[0-9]+").replaceFirst("^0+(?=.)", "");
        int number = digits.length() > 3 ? 9999 : Integer.parseInt(digits);
        number = minus ? -number : number;
        if (number < range[0] || number > range[1]) {
          throw new Wrong(2, at);
        }
        command.add("" + number);
      }
      if (word.equals("join") && !tokens.isEmpty() && tokens.get(0).text.equals("end")) {
        command.add(tokens.remove(0).text);
      }
      take(tokens, length, ";");
      commands.add(command.toArray(new String[0]));
    }
    return commands;
  }

  public int runScript() {
    List<String[]> commands;
    errorCode = 0;
    errorPosition = -1;
    try {
      commands = parse(text);
    } catch (Wrong wrong) {
      errorCode = wrong.code;
      errorPosition = wrong.position;
      return -1;
    } finally {
      text = "";
    }
    int done = 0;
    for (String[] command : commands) {
      try {
        if (perform(command) <= -11) {
          break;
        }
      } catch (IndexOutOfBoundsException | IllegalArgumentException e) {
        break;
      }
      done++;
    }
    return done;
  }

  private int perform(String[] command) {
    boolean end = command[command.length - 1].equals("end");
    int[] n = new int[4];
    for (int i = 1; i < command.length - (end ? 1 : 0); i++) {
      n[i - 1] = Integer.parseInt(command[i]);
    }
    switch (command[0]) {
      case "append": return append(n[0], n[1], n[2], n[3]);
      case "join": return join(n[0], end);
      case "read": return read(n[0], n[1]);
      case "promise": return promise(n[0], n[1]);
      case "move": return move(n[0], n[1]);
      case "leave": return leave(n[0]);
      case "fork": return fork(n[0]);
      case "merge": return merge(n[0]);
      case "drop": return drop(n[0]);
      default: return pass(n[0]);
    }
  }

  public int errorCode() {
    return errorCode;
  }

  public int errorPosition() {
    return errorPosition;
  }

  // ---- settings and numbers

  public int set(int what, int value) {
    within(what, 0, 6);
    within(value, RANGES[what][0], RANGES[what][1]);
    int previous = settings[what];
    settings[what] = value;
    return previous;
  }

  public int count(int what) {
    within(what, 0, 17);
    if (what < 7) {
      return settings[what];
    }
    if (what >= 12 && what <= 15) {
      return world.causes[what - 12];
    }
    return switch (what) {
      case 7 -> world.time;
      case 8 -> world.lines.size();
      case 9 -> world.people.size();
      case 10 -> world.lines.values().stream().mapToInt(l -> l.items.size()).sum();
      case 11 -> world.appended;
      case 16 -> past.size();
      default -> delivery.size();
    };
  }

  public int branch(int branch, int what) {
    Line line = line(branch);
    within(what, 0, 7);
    return switch (what) {
      case 0 -> line.first;
      case 1 -> line.end();
      case 2 -> line.total();
      case 3 -> line.parent == null ? -1 : line.parent;
      case 4 -> line.fork;
      case 5 -> readers(branch);
      case 6 -> children(branch);
      default -> line.cuts;
    };
  }

  public int entry(int branch, int position, int what) {
    Line line = line(branch);
    if (position < line.first || position >= line.end()) {
      throw new IndexOutOfBoundsException();
    }
    within(what, 0, 4);
    Item item = line.items.get(position - line.first);
    return switch (what) {
      case 0 -> item.time;
      case 1 -> item.key;
      case 2 -> item.size;
      case 3 -> item.value;
      default -> (int) world.people.values().stream().filter(p -> p.line == branch && p.place <= position).count();
    };
  }

  public int reader(int reader, int what) {
    Person person = person(reader);
    within(what, 0, 10);
    Line line = line(person.line);
    List<Item> unread = line.items.subList(person.place - line.first, line.items.size());
    return switch (what) {
      case 0 -> person.line;
      case 1 -> person.place;
      case 2 -> person.seen;
      case 3 -> person.promise == null ? -1 : person.promise;
      case 4 -> person.kept;
      case 5 -> person.broken;
      case 6 -> covered(world, person) ? 1 : 0;
      case 7 -> unread.size();
      case 8 -> unread.stream().mapToInt(Item::size).sum();
      case 9 -> person.entriesRead;
      default -> person.summariesRead;
    };
  }

  public int debt(int reader, int what) {
    Person person = person(reader);
    within(what, 0, 6);
    return summary(person.debt)[what];
  }

  public int debtOf(int reader, int key) {
    Person person = person(reader);
    within(key, 0, 9);
    int value = -1000;
    for (Cut cut : person.debt) {
      value = cut.item.key == key ? cut.item.value : value;
    }
    return value;
  }

  public int item(int item, int what) {
    if (item < 0 || item >= delivery.size()) {
      throw new IndexOutOfBoundsException();
    }
    within(what, 0, 7);
    return delivery.get(item)[what];
  }

  public int account(int what) {
    within(what, 0, 10);
    return accounts[what];
  }

  // ---- acts

  public int append(int branch, int key, int size, int value) {
    line(branch);
    within(key, 0, 9);
    within(size, 1, 9);
    within(value, -99, 99);
    act();
    Line line = line(branch);
    line.items.add(new Item(world.time, key, size, value));
    int position = line.end() - 1;
    world.appended++;
    cut(world, branch);
    return position;
  }

  public int join(int branch, boolean isEnd) {
    Line line = line(branch);
    if (world.people.size() == 6) {
      return refuse(1);
    }
    act();
    Person person = new Person();
    person.line = branch;
    person.place = isEnd ? line.end() : line.first;
    person.seen = world.time;
    int number = free(world.people);
    world.people.put(number, person);
    return number;
  }

  public int leave(int reader) {
    person(reader);
    act();
    world.people.remove(reader);
    return world.people.size();
  }

  public int read(int reader, int items) {
    Person person = person(reader);
    within(items, 1, 99);
    Line line = line(person.line);
    if (person.debt.isEmpty() && person.place == line.end()) {
      return refuse(10);
    }
    act();
    delivery = new ArrayList<>();
    if (!person.debt.isEmpty()) {
      int[] s = summary(person.debt);
      delivery.add(new int[] {1, s[0], s[1], s[2], s[3], s[4], s[5], s[6]});
      person.debt.clear();
      person.summariesRead++;
    }
    while (delivery.size() < items && person.place < line.end()) {
      Item item = line.items.get(person.place - line.first);
      delivery.add(new int[] {0, person.place, item.key, item.size, item.value, -1, -1, -1});
      person.place++;
      person.entriesRead++;
    }
    person.seen = world.time;
    if (person.promise != null) {
      person.promise = null;
      person.kept++;
    }
    return delivery.size();
  }

  public int promise(int reader, int ticks) {
    Person person = person(reader);
    within(ticks, 1, settings[5]);
    if (person.broken >= settings[4]) {
      return refuse(3);
    }
    if (person.promise != null) {
      return refuse(4);
    }
    act();
    person.promise = world.time + ticks;
    return person.promise;
  }

  public int move(int reader, int branch) {
    Person person = person(reader);
    Line goal = line(branch);
    if (person.line == branch || person.place > alike(person.line, branch) || person.place < goal.first) {
      return refuse(5);
    }
    act();
    person.line = branch;
    person.seen = world.time;
    return person.place;
  }

  public int fork(int branch) {
    Line parent = line(branch);
    if (world.lines.size() == 4) {
      return refuse(2);
    }
    act();
    Line child = parent.copy();
    child.parent = branch;
    child.fork = parent.end();
    child.cuts = 0;
    int number = free(world.lines);
    world.lines.put(number, child);
    return number;
  }

  public int merge(int branch) {
    Line child = line(branch);
    if (branch == 0) {
      return refuse(6);
    }
    if (children(branch) > 0) {
      return refuse(7);
    }
    if (world.people.values().stream().anyMatch(p -> p.line == branch && p.place < child.fork)) {
      return refuse(9);
    }
    act();
    int goal = child.parent;
    Line parent = line(goal);
    int end = parent.end();
    List<Integer> positions = new ArrayList<>();
    for (int position = child.first; position < child.end(); position++) {
      if (position >= child.fork) {
        positions.add(position);
        parent.items.add(child.items.get(position - child.first));
      }
    }
    for (Person person : world.people.values()) {
      if (person.line == branch) {
        int place = person.place;
        person.line = goal;
        person.place = end + (int) positions.stream().filter(p -> p < place).count();
      }
    }
    world.lines.remove(branch);
    cut(world, goal);
    return positions.size();
  }

  public int drop(int branch) {
    Line gone = line(branch);
    if (branch == 0) {
      return refuse(6);
    }
    if (children(branch) > 0) {
      return refuse(7);
    }
    if (readers(branch) > 0) {
      return refuse(8);
    }
    act();
    world.lines.remove(branch);
    return gone.items.size();
  }

  public int pass(int ticks) {
    within(ticks, 1, 99);
    act();
    int done = 0;
    for (int n = 0; n < ticks; n++) {
      done += tick(world);
    }
    return done;
  }

  // ---- what follows

  public int common(int one, int other) {
    line(one);
    line(other);
    return alike(one, other);
  }

  public int holder(int branch) {
    Line line = line(branch);
    for (int number : world.people.keySet()) {
      Person person = world.people.get(number);
      if (person.line == branch && covered(world, person) && person.place <= line.first && !line.items.isEmpty()) {
        return number;
      }
    }
    return -1;
  }

  public int slowest(int branch) {
    line(branch);
    return world.people.keySet().stream().filter(n -> world.people.get(n).line == branch)
        .min(Comparator.comparingInt((Integer n) -> world.people.get(n).place).thenComparing(n -> n)).orElse(-1);
  }

  public int cause(int branch) {
    line(branch);
    return causeIn(world, branch);
  }

  public int latest(int branch, int key) {
    Line line = line(branch);
    within(key, 0, 9);
    int value = -1000;
    for (Item item : line.items) {
      value = item.key == key ? item.value : value;
    }
    return value;
  }

  public double mean(int branch) {
    Line line = line(branch);
    return line.items.isEmpty() ? 0.0 : (double) line.items.stream().mapToInt(Item::value).sum() / line.items.size();
  }

  public float trust(int reader) {
    Person person = person(reader);
    int all = person.kept + person.broken;
    return all == 0 ? 1f : (float) person.kept / (float) all;
  }

  public int ahead(int ticks, int what) {
    within(ticks, 1, 99);
    within(what, 0, 3);
    World then = world.copy();
    int done = 0;
    for (int n = 0; n < ticks; n++) {
      done += tick(then);
    }
    int broken = 0;
    int owed = 0;
    for (int number : then.people.keySet()) {
      broken += then.people.get(number).broken - world.people.get(number).broken;
      owed += then.people.get(number).debt.size() - world.people.get(number).debt.size();
    }
    int greatest = then.lines.values().stream().mapToInt(Line::total).max().getAsInt();
    return new int[] {done, broken, owed, greatest}[what];
  }

  public int losesIn(int reader, int most) {
    Person person = person(reader);
    within(most, 1, 200);
    World then = world.copy();
    for (int n = 1; n <= most; n++) {
      tick(then);
      if (then.people.get(reader).debt.size() > person.debt.size()) {
        return n;
      }
    }
    return -1;
  }

  public int wouldCut(int branch, int size) {
    line(branch);
    within(size, 1, 9);
    World then = world.copy();
    then.lines.get(branch).items.add(new Item(then.time, 5, size, 77));
    return cut(then, branch);
  }

  public int unread(int reader, int key) {
    Person person = person(reader);
    within(key, 0, 9);
    Line line = line(person.line);
    int found = 0;
    for (int position = person.place; position < line.end(); position++) {
      found += line.items.get(position - line.first).key == key ? 1 : 0;
    }
    return found;
  }

  public int promised(int index) {
    if (index < 0) {
      throw new IndexOutOfBoundsException();
    }
    List<Integer> order = new ArrayList<>(world.people.keySet());
    order.removeIf(n -> world.people.get(n).promise == null);
    order.sort(Comparator.comparing(n -> world.people.get(n).promise));
    return index < order.size() ? order.get(index) : -1;
  }

  public int age(int branch) {
    Line line = line(branch);
    return line.items.isEmpty() ? -1 : world.time - line.items.get(0).time;
  }

  // ---- output

  public int write(int branch) {
    Line line = line(branch);
    StringBuilder out = new StringBuilder(branch + ":" + line.first + "-" + line.end());
    world.people.forEach((number, person) -> {
      if (person.line == branch) {
        out.append(" r" + number + "=" + person.place);
        out.append(person.promise == null ? "" : "p" + person.promise);
        out.append(person.debt.isEmpty() ? "" : "!");
      }
    });
    written = out.toString();
    return written.length();
  }

  public int output(int index) {
    return index >= 0 && index < written.length() ? written.charAt(index) : -1;
  }

  // ---- undo, saved states

  public int undo() {
    if (past.isEmpty()) {
      return -1;
    }
    world = past.removeLast();
    return past.size();
  }

  public void save(int slot) {
    within(slot, 0, 1);
    slots[slot] = world.copy();
  }

  public void restore(int slot) {
    within(slot, 0, 1);
    if (slots[slot] == null) {
      throw new IllegalStateException();
    }
    world = slots[slot].copy();
    past.clear();
  }
}
