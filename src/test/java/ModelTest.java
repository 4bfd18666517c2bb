import java.lang.reflect.Method;
import java.util.Arrays;

/** Random runs of 512 calls: PromiseLog and Model give the same answers. */
public final class ModelTest {
  private static final int RUNS = 400;
  private static final int CALLS = 512;
  private static final Check CHECK = new Check();
  private static int calls;

  public static void main(String[] args) {
    for (int seed = 1; seed <= RUNS && CHECK.isRight(); seed++) {
      run(seed);
    }
    longBranches();
    CHECK.end();
  }

  /** As many entries as 512 calls can make, in one branch and over a merge. */
  private static void longBranches() {
    for (int forkAt = 250; forkAt <= 510; forkAt += 130) {
      PromiseLog log = new PromiseLog();
      Model model = new Model();
      compare(0, log, model, Runs.named("set"), new Object[] {0, 400});
      compare(0, log, model, Runs.named("set"), new Object[] {1, 900});
      compare(0, log, model, Runs.named("join"), new Object[] {0, false});
      for (int n = 0; n < 506; n++) {
        if (n == forkAt) {
          compare(0, log, model, Runs.named("fork"), new Object[] {0});
        }
        int branch = n < forkAt ? 0 : 1;
        compare(0, log, model, Runs.named("append"), new Object[] {branch, n % 10, 1, n % 100});
      }
      compare(0, log, model, Runs.named("merge"), new Object[] {1});
      compare(0, log, model, Runs.named("read"), new Object[] {0, 99});
      everything(0, log, model);
    }
  }

  private static void run(int seed) {
    PromiseLog log = new PromiseLog();
    Runs runs = new Runs(seed, log);
    Model model = new Model();
    calls = 0;
    while (calls < CALLS && CHECK.isRight()) {
      int kind = runs.below(40);
      if (kind == 0) {
        script(seed, runs, log, model);
      } else {
        Method method = kind < 24 ? runs.anyAct() : runs.anyMethod();
        calls++;
        compare(seed, log, model, method, runs.arguments(method));
      }
      if (runs.below(200) == 0) {
        everything(seed, log, model);
      }
    }
    everything(seed, log, model);
  }

  private static void script(int seed, Runs runs, PromiseLog log, Model model) {
    String text = runs.script();
    if (calls + 6 + text.length() / 4 > CALLS) {
      text = "";
    }
    calls += 6 + text.length() / 4;
    compare(seed, log, model, Runs.named("truncateText"), new Object[] {0});
    for (int at = 0; at < text.length(); at += 4) {
      int four = 0;
      for (int i = at; i < at + 4; i++) {
        four = four << 8 | (i < text.length() ? text.charAt(i) : ' ') & 255;
      }
      compare(seed, log, model, Runs.named("appendText"), new Object[] {four});
    }
    compare(seed, log, model, Runs.named("truncateText"), new Object[] {text.length()});
    compare(seed, log, model, Runs.named("runScript"), new Object[] {});
    compare(seed, log, model, Runs.named("errorCode"), new Object[] {});
    compare(seed, log, model, Runs.named("errorPosition"), new Object[] {});
  }

  private static void compare(int seed, PromiseLog log, Model model, Method method, Object[] arguments) {
    Object got = Runs.answer(log, method, arguments);
    Object due = Runs.answer(model, method, arguments);
    if (got == null ? due != null : !got.equals(due)) {
      CHECK.say("run " + seed + ", call " + calls + ": " + method.getName() + Arrays.toString(arguments)
          + " answered " + got + ", due is " + due);
    }
  }

  private static void everything(int seed, PromiseLog log, Model model) {
    for (Method method : Runs.FACE) {
      boolean isNumber = "count branch reader debt debtOf account holder slowest cause latest mean trust ahead losesIn"
          .concat(" wouldCut unread promised age item common").contains(method.getName());
      if (!isNumber) {
        continue;
      }
      int parameters = method.getParameterCount();
      for (int one = -1; one <= 18; one++) {
        if (parameters == 1) {
          compare(seed, log, model, method, new Object[] {one});
        }
        for (int other = -1; other <= 11 && parameters == 2; other++) {
          compare(seed, log, model, method, new Object[] {one, other});
        }
      }
    }
    for (int branch = 0; branch < 4; branch++) {
      for (int position = -1; position < 515; position++) {
        for (int what = 0; what < 5; what++) {
          compare(seed, log, model, Runs.named("entry"), new Object[] {branch, position, what});
        }
      }
      compare(seed, log, model, Runs.named("write"), new Object[] {branch});
      for (int index = -1; index < 80; index++) {
        compare(seed, log, model, Runs.named("output"), new Object[] {index});
      }
    }
  }
}
