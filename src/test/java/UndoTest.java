/** Promises 41 to 43: undo and saved states. */
public final class UndoTest {
  private static final Check CHECK = new Check();

  public static void main(String[] args) {
    eachAct();
    depth();
    refusals();
    readings();
    branches();
    saved();
    savedTwice();
    CHECK.end();
  }

  private static PromiseLog full() {
    PromiseLog log = new PromiseLog();
    log.set(0, 12);
    log.set(1, 20);
    log.set(2, 4);
    log.join(0, false);
    log.join(0, false);
    for (int n = 0; n < 5; n++) {
      log.append(0, n, 5, n);
    }
    log.promise(1, 3);
    log.fork(0);
    log.append(1, 7, 7, 70);
    log.join(1, true);
    log.fork(0);
    return log;
  }

  private static void same(String what, String got, String due) {
    if (!got.equals(due)) {
      CHECK.say(what + ": " + got + "\n  due is: " + due);
    }
  }

  private static void undone(String what, PromiseLog log, String due, int act) {
    CHECK.due(what + " is done", act >= 0 ? 1 : 0, 1);
    CHECK.due(what + ": count(16)", log.count(16), 8);
    CHECK.due(what + ": undo()", log.undo(), 7);
    same(what, Picture.kept(log), due);
  }

  private static void eachAct() {
    PromiseLog log = full();
    String due = Picture.kept(log);
    undone("append", log, due, log.append(0, 9, 9, 9));
    due = Picture.kept(full());
    for (int act = 0; act < 10; act++) {
      PromiseLog other = full();
      int answer = doAct(other, act);
      undone("act " + act, other, due, answer);
    }
  }

  private static int doAct(PromiseLog log, int act) {
    switch (act) {
      case 0: return log.append(0, 9, 9, 9);
      case 1: return log.join(1, false);
      case 2: return log.leave(0);
      case 3: return log.read(0, 3);
      case 4: return log.promise(0, 5);
      case 5: return log.move(0, 2);
      case 6: return log.fork(1);
      case 7: return log.merge(1);
      case 8: return log.drop(2);
      default: return log.pass(9);
    }
  }

  private static void depth() {
    PromiseLog log = new PromiseLog();
    for (int n = 0; n < 11; n++) {
      log.append(0, 1, 1, n);
    }
    for (int n = 7; n >= 0; n--) {
      CHECK.due("undo()", log.undo(), n);
      CHECK.due("END", log.branch(0, 1), n + 3);
    }
    CHECK.due("none to undo", log.undo(), -1);
    CHECK.due("END", log.branch(0, 1), 3);
    CHECK.due("append() goes on", log.append(0, 2, 2, 50), 3);
    CHECK.due("its value", log.entry(0, 3, 3), 50);
    CHECK.due("appended", log.count(11), 4);
    CHECK.due("done", log.account(0), 12);
    CHECK.due("undo() once more", log.undo(), 0);
    Check.run(log, "ticks 1;ticks 2;ticks 3;");
    CHECK.due("commands are acts", log.undo(), 2);
    CHECK.due("time", log.count(7), 3);
  }

  private static void refusals() {
    PromiseLog log = new PromiseLog();
    log.pass(1);
    log.drop(0);
    CHECK.due("a refusal can't be undone", log.undo(), 0);
    CHECK.due("time", log.count(7), 0);
    CHECK.due("the refusal stays", log.account(6), 1);
    log.join(0, false);
    log.append(0, 1, 1, 1);
    log.read(0, 1);
    log.write(0);
    log.undo();
    CHECK.due("the delivery stays", log.count(17), 1);
    CHECK.due("the output stays", log.output(0), '0');
    CHECK.due("the reading is undone", log.reader(0, 9), 0);
    log.read(0, 1);
    CHECK.due("read again", log.reader(0, 9), 1);
  }

  private static void readings() {
    PromiseLog log = new PromiseLog();
    log.set(1, 1);
    log.join(0, false);
    log.append(0, 1, 5, 1);
    log.append(0, 1, 1, 2);
    log.promise(0, 9);
    log.pass(2);
    String due = Picture.kept(log);
    log.read(0, 9);
    String read = Picture.kept(log);
    log.pass(1);
    log.undo();
    same("behind a reading", Picture.kept(log), read);
    log.undo();
    same("ahead of a reading", Picture.kept(log), due);
    log.save(1);
    log.read(0, 9);
    log.save(0);
    log.restore(1);
    same("restore(1)", Picture.kept(log), due);
    log.restore(0);
    same("restore(0)", Picture.kept(log), read);
  }

  /** A branch with the same number, but another parent. */
  private static void branches() {
    PromiseLog log = new PromiseLog();
    log.append(0, 1, 1, 1);
    log.fork(0);
    log.append(1, 1, 1, 2);
    log.fork(1);
    String due = Picture.kept(log);
    log.save(0);
    log.drop(2);
    log.append(0, 1, 1, 3);
    log.append(0, 1, 1, 4);
    log.fork(0);
    CHECK.due("FORK", log.branch(2, 4), 3);
    for (int n = 0; n < 4; n++) {
      log.undo();
    }
    same("undo of a branch", Picture.kept(log), due);
    log.drop(2);
    log.append(0, 1, 1, 3);
    log.fork(0);
    log.restore(0);
    same("restore of a branch", Picture.kept(log), due);
  }

  private static void saved() {
    PromiseLog log = full();
    String due = Picture.kept(log);
    int acts = log.account(0);
    log.save(0);
    CHECK.due("save() is no act", log.account(0), acts);
    CHECK.due("save() leaves the acts", log.count(16), 8);
    log.pass(50);
    log.set(0, 99);
    log.append(1, 1, 9, 9);
    log.restore(0);
    same("restore(0)", Picture.kept(log), due);
    CHECK.due("settings stay", log.count(0), 99);
    CHECK.due("no act can be undone", log.count(16), 0);
    CHECK.due("undo()", log.undo(), -1);
    CHECK.due("accounts stay", log.account(0), acts + 2);
    log.leave(0);
    log.merge(1);
    log.restore(0);
    same("it stays saved", Picture.kept(log), due);
    log.pass(1);
    log.undo();
    log.undo();
    log.restore(0);
    same("undo leaves it", Picture.kept(log), due);
    CHECK.dueArgument("save(2)", () -> log.save(2));
    CHECK.dueArgument("save(-1)", () -> log.save(-1));
    CHECK.dueArgument("restore(2)", () -> log.restore(2));
    CHECK.dueArgument("restore(-1)", () -> log.restore(-1));
    CHECK.dueState("restore(1)", () -> log.restore(1));
  }

  private static void savedTwice() {
    PromiseLog log = new PromiseLog();
    log.append(0, 1, 1, 11);
    log.save(0);
    log.append(0, 1, 1, 22);
    log.save(1);
    log.restore(0);
    CHECK.due("slot 0", log.branch(0, 1), 1);
    log.append(0, 1, 1, 33);
    log.restore(1);
    CHECK.due("slot 1", log.entry(0, 1, 3), 22);
    log.save(0);
    log.pass(1);
    log.restore(0);
    CHECK.due("slot 0 is replaced", log.branch(0, 1), 2);
    CHECK.due("time", log.count(7), 0);
  }
}
