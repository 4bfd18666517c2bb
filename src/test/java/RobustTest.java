import java.lang.reflect.Method;
import java.util.Arrays;
import java.util.List;

/** Calls with any arguments, far beyond the 512 calls of an object: only what the document names is ever thrown. */
public final class RobustTest {
  private static final Check CHECK = new Check();

  public static void main(String[] args) {
    for (int seed = 1; seed <= 60; seed++) {
      run(seed, 6000);
    }
    full();
    CHECK.end();
  }

  private static void run(int seed, int calls) {
    PromiseLog log = new PromiseLog();
    Runs runs = new Runs(seed, log);
    for (int n = 0; n < calls; n++) {
      Method method = runs.below(3) > 0 ? runs.anyAct() : runs.anyMethod();
      ask(log, method, runs.arguments(method));
      if (runs.below(100) == 0) {
        script(log, runs.script());
      }
    }
  }

  private static void script(PromiseLog log, String text) {
    ask(log, Runs.named("truncateText"), new Object[] {0});
    for (int at = 0; at + 4 <= text.length(); at += 4) {
      int four = 0;
      for (int i = at; i < at + 4; i++) {
        four = four << 8 | text.charAt(i) & 255;
      }
      ask(log, Runs.named("appendText"), new Object[] {four});
    }
    ask(log, Runs.named("runScript"), new Object[] {});
  }

  private static void ask(PromiseLog log, Method method, Object[] arguments) {
    Object answer = Runs.answer(log, method, arguments);
    if (!(answer instanceof String)) {
      return;
    }
    List<Class<?>> named = Arrays.asList(method.getExceptionTypes());
    boolean isNamed = named.stream().anyMatch(kind -> answer.equals("throws " + kind.getName()));
    if (!isNamed) {
      CHECK.say(method.getName() + Arrays.toString(arguments) + " " + answer);
    }
  }

  /** A branch that is full refuses nothing and throws nothing, and its copies and merges neither. */
  private static void full() {
    PromiseLog log = new PromiseLog();
    log.set(0, 400);
    log.set(1, 900);
    log.join(0, false);
    for (int n = 0; n < 2000; n++) {
      log.append(0, n % 10, 1, 1);
      if (n == 300) {
        log.fork(0);
      }
      log.append(n > 300 ? 1 : 0, 1, 1, 1);
      log.wouldCut(0, 1);
    }
    log.join(1, true);
    log.merge(1);
    log.pass(99);
    log.losesIn(0, 200);
    log.read(1, 99);
    log.read(0, 99);
    for (int what = 0; what <= 10; what++) {
      log.reader(0, what);
      log.reader(1, what);
    }
    log.write(0);
    while (log.undo() > 0) {
      log.mean(0);
    }
  }
}
