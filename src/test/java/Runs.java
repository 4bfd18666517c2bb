import java.lang.reflect.InvocationTargetException;
import java.lang.reflect.Method;
import java.util.Arrays;
import java.util.Comparator;
import java.util.Random;

/** Random calls of the face, told as a method and its arguments; the same seed gives the same calls. */
final class Runs {
  static final Method[] FACE = face();
  private static final String[] ACTS = {"append", "append", "append", "append", "append", "append", "append", "join",
    "join", "leave", "read", "read", "read", "promise", "promise", "move", "move", "fork", "merge", "drop", "pass",
    "pass", "pass", "undo", "set"};
  private static final int[][] WITHIN = {{1, 400}, {1, 900}, {0, 500}, {0, 99}, {1, 9}, {1, 60}, {0, 1}};
  private final Random random;
  private final int mood;
  private final PromiseLog log;

  /** The calls are for a log, whose branches and readers they mostly name. */
  Runs(long seed, PromiseLog log) {
    this.log = log;
    random = new Random(seed);
    mood = (int) (seed & 7);
  }

  private static Method[] face() {
    Method[] methods = PromiseLog.class.getMethods();
    Method[] found = Arrays.stream(methods).filter(m -> m.getDeclaringClass() == PromiseLog.class)
        .toArray(Method[]::new);
    Arrays.sort(found, Comparator.comparing(Method::getName));
    return found;
  }

  static Method named(String name) {
    for (Method method : FACE) {
      if (method.getName().equals(name)) {
        return method;
      }
    }
    throw new IllegalStateException(name);
  }

  /** The answer of a call: its value, or the class of the exception. */
  static Object answer(Object target, Method method, Object[] arguments) {
    try {
      Method own = target instanceof PromiseLog
          ? method : target.getClass().getMethod(method.getName(), method.getParameterTypes());
      return own.invoke(target, arguments);
    } catch (InvocationTargetException e) {
      return "throws " + e.getCause().getClass().getName();
    } catch (ReflectiveOperationException e) {
      throw new IllegalStateException(e);
    }
  }

  int below(int bound) {
    return random.nextInt(bound);
  }

  Method anyMethod() {
    return FACE[below(FACE.length)];
  }

  Method anyAct() {
    if (below(mood < 4 ? 200 : 30) == 0) {
      return named(below(2) == 0 ? "save" : "restore");
    }
    return named(ACTS[below(ACTS.length)]);
  }

  /** Mostly arguments that can be; now and then some that can't. */
  Object[] arguments(Method method) {
    Class<?>[] kinds = method.getParameterTypes();
    Object[] arguments = new Object[kinds.length];
    for (int i = 0; i < kinds.length; i++) {
      arguments[i] = kinds[i] == boolean.class ? (Object) random.nextBoolean() : (Object) number(method.getName(), i);
    }
    if (method.getName().equals("set") && below(20) > 0) {
      int what = below(7);
      arguments[0] = what;
      int most = mood % 4 != 0 && what < 4 ? 20 * (mood % 4) - 10 : WITHIN[what][1];
      arguments[1] = WITHIN[what][0] + below(most - WITHIN[what][0] + 1);
    }
    return arguments;
  }

  private int number(String name, int index) {
    if (below(60) == 0) {
      return wild();
    }
    boolean isBranch = index == 0 && "branch entry append join fork merge drop holder slowest cause latest mean"
        .concat(" wouldCut age write common").contains(name) || index == 1 && (name.equals("move") || name.equals("common"));
    if (isBranch) {
      return below(20) == 0 ? below(5) : oneThatIs("branch", 4);
    }
    if (index == 0 && "reader debt debtOf leave read promise move trust losesIn unread".contains(name)) {
      return below(20) == 0 ? below(7) : oneThatIs("reader", 6);
    }
    switch (name) {
      case "append": return index == 3 ? below(199) - 99 : index == 2 ? 1 + below(9) : below(10);
      case "read": return 1 + below(below(2) == 0 ? 3 : 99);
      case "pass": return 1 + below(below(4) == 0 ? 20 : 4);
      case "promise": return 1 + below(8);
      case "entry": return index == 1 ? below(120) : below(5);
      case "item": return below(below(2) == 0 ? 8 : 3);
      case "debt": return below(7);
      case "branch": return below(8);
      case "promised": return below(3);
      case "losesIn": return 1 + below(200);
      case "ahead": return index == 0 ? 1 + below(99) : below(4);
      case "wouldCut": return 1 + below(9);
      case "save": return below(2);
      case "restore": return below(2);
      case "truncateText": return below(30);
      case "appendText": return random.nextInt();
      default: return below(20);
    }
  }

  private int oneThatIs(String name, int bound) {
    for (int tries = 0; tries < 20; tries++) {
      int number = below(bound);
      if (!(answer(log, named(name), new Object[] {number, 0}) instanceof String)) {
        return number;
      }
    }
    return 0;
  }

  private int wild() {
    int[] wild = {-1, -2, Integer.MIN_VALUE, Integer.MAX_VALUE, 4, 6, 8, 10, 11, 99, 100, 101, 200, 201, 512, 700};
    return below(3) == 0 ? random.nextInt() : wild[below(wild.length)];
  }

  // ---- scripts

  /** A text of commands, now and then with something wrong in it. */
  String script() {
    StringBuilder text = new StringBuilder();
    int commands = below(8) == 0 ? 55 + below(10) : below(12);
    for (int n = 0; n < commands && text.length() < 660; n++) {
      text.append(blank()).append(command(commands > 50)).append(blank()).append(';').append(blank());
    }
    if (below(3) == 0 && text.length() > 0) {
      int at = below(text.length());
      String signs = "; -0915azAn#e\n\t\u00ff";
      switch (below(4)) {
        case 0: text.setCharAt(at, signs.charAt(below(signs.length()))); break;
        case 1: text.insert(at, signs.charAt(below(signs.length()))); break;
        case 2: text.deleteCharAt(at); break;
        default: text.setLength(at);
      }
    }
    text.setLength(Math.min(text.length(), 700));
    return text.toString();
  }

  private String blank() {
    return below(6) > 0 ? "" : below(2) == 0 ? " " : " \n";
  }

  private String command(boolean isShort) {
    if (isShort) {
      return below(3) == 0 ? "join 0" : "ticks " + (1 + below(3));
    }
    int branch = below(below(9) == 0 ? 5 : 3);
    int reader = below(below(9) == 0 ? 7 : 4);
    switch (below(14)) {
      case 0: return "join " + branch;
      case 1: return "join " + branch + " end";
      case 2: return "read " + reader + " " + below(below(9) == 0 ? 102 : 9);
      case 3: return "promise " + reader + " " + (1 + below(below(9) == 0 ? 62 : 9));
      case 4: return "move " + reader + " " + branch;
      case 5: return "leave " + reader;
      case 6: return "fork " + branch;
      case 7: return "merge " + branch;
      case 8: return "drop " + branch;
      case 9: return "ticks " + (1 + below(below(9) == 0 ? 101 : 6));
      default: return "append " + branch + " " + below(10) + " 00" + (1 + below(9)) + (below(2) == 0 ? " -" : " ")
          + below(below(30) == 0 ? 102 : 100);
    }
  }
}
