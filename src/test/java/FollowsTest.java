/** Promises 26 to 40: what follows from the log, predictions and output. */
public final class FollowsTest {
  private static final Check CHECK = new Check();

  public static void main(String[] args) {
    common();
    holderAndSlowest();
    cause();
    latestAndMean();
    trust();
    ahead();
    losesIn();
    wouldCut();
    unread();
    promised();
    age();
    output();
    CHECK.end();
  }

  private static void common() {
    PromiseLog log = new PromiseLog();
    log.append(0, 1, 1, 1);
    log.fork(0);
    log.append(0, 1, 1, 1);
    log.append(0, 1, 1, 1);
    log.fork(0);
    log.append(1, 1, 1, 1);
    log.append(1, 1, 1, 1);
    log.append(1, 1, 1, 1);
    log.fork(1);
    log.append(3, 1, 1, 1);
    log.append(0, 1, 1, 1);
    int[][] due = {{4, 1, 3, 1}, {1, 4, 1, 4}, {3, 1, 3, 1}, {1, 4, 1, 5}};
    for (int one = 0; one < 4; one++) {
      for (int other = 0; other < 4; other++) {
        CHECK.due("common(" + one + ", " + other + ")", log.common(one, other), due[one][other]);
      }
    }
    CHECK.dueIndex("common(0, 4)", () -> log.common(0, 4));
    CHECK.dueIndex("common(-1, 0)", () -> log.common(-1, 0));
    log.drop(3);
    CHECK.dueIndex("common(3, 3)", () -> log.common(3, 3));
    chain();
  }

  private static void chain() {
    PromiseLog log = new PromiseLog();
    for (int branch = 0; branch < 3; branch++) {
      log.append(branch, 1, 1, 1);
      log.fork(branch);
    }
    CHECK.due("common(0, 3) of a chain", log.common(0, 3), 1);
    CHECK.due("common(3, 1) of a chain", log.common(3, 1), 2);
    CHECK.due("common(2, 3) of a chain", log.common(2, 3), 3);
  }

  private static void holderAndSlowest() {
    PromiseLog log = new PromiseLog();
    log.join(0, false);
    CHECK.due("holder without an entry", log.holder(0), -1);
    CHECK.due("slowest without an entry", log.slowest(0), 0);
    log.append(0, 1, 1, 1);
    log.append(0, 1, 1, 1);
    log.join(0, true);
    log.join(0, false);
    CHECK.due("holder", log.holder(0), 0);
    CHECK.due("slowest: the lowest number", log.slowest(0), 0);
    log.read(0, 1);
    CHECK.due("holder then", log.holder(0), 2);
    CHECK.due("slowest then", log.slowest(0), 2);
    log.pass(6);
    CHECK.due("none holds it", log.holder(0), -1);
    CHECK.due("slowest still", log.slowest(0), 2);
    log.promise(2, 1);
    CHECK.due("held by a promise", log.holder(0), 2);
    log.fork(0);
    CHECK.due("none in the copy", log.holder(1), -1);
    CHECK.due("none in the copy", log.slowest(1), -1);
    log.move(2, 1);
    CHECK.due("holder of the copy", log.holder(1), 2);
    CHECK.due("slowest of the parent", log.slowest(0), 0);
    CHECK.dueIndex("holder(2)", () -> log.holder(2));
    CHECK.dueIndex("slowest(2)", () -> log.slowest(2));
  }

  private static void cause() {
    PromiseLog log = new PromiseLog();
    log.append(0, 1, 9, 1);
    log.append(0, 1, 9, 1);
    CHECK.due("none", log.cause(0), -1);
    log.set(0, 17);
    CHECK.due("above SOFT", log.cause(0), 1);
    log.set(0, 18);
    CHECK.due("at SOFT", log.cause(0), -1);
    log.set(1, 17);
    CHECK.due("above HARD", log.cause(0), 0);
    log.set(0, 17);
    CHECK.due("the first rule", log.cause(0), 0);
    log.set(1, 18);
    log.join(0, false);
    CHECK.due("held", log.cause(0), -1);
    log.read(0, 1);
    CHECK.due("read, so not held", log.cause(0), 1);
    log.set(6, 1);
    CHECK.due("1 comes ahead of 3", log.cause(0), 1);
    log.set(0, 18);
    CHECK.due("SWEEP", log.cause(0), 3);
    log.join(0, false);
    CHECK.due("not read by all", log.cause(0), -1);
    log.leave(1);
    log.leave(0);
    CHECK.due("SWEEP without a reader", log.cause(0), -1);
    log.join(0, true);
    CHECK.due("all places behind it", log.cause(0), 3);
    old();
    CHECK.dueIndex("cause(1)", () -> log.cause(1));
  }

  private static void old() {
    PromiseLog log = new PromiseLog();
    log.append(0, 1, 1, 1);
    log.pass(9);
    CHECK.due("AGE 0", log.cause(0), -1);
    log.set(2, 9);
    CHECK.due("at AGE", log.cause(0), -1);
    log.set(2, 8);
    CHECK.due("above AGE", log.cause(0), 2);
    log.set(6, 1);
    log.join(0, true);
    CHECK.due("2 comes ahead of 3", log.cause(0), 2);
    log.join(0, false);
    CHECK.due("held", log.cause(0), -1);
  }

  private static void latestAndMean() {
    PromiseLog log = new PromiseLog();
    CHECK.dueReal("mean without an entry", log.mean(0), 0.0);
    log.set(0, 9);
    log.append(0, 1, 5, 50);
    CHECK.dueReal("mean of one", log.mean(0), 50.0);
    log.append(0, 2, 3, -20);
    log.append(0, 2, 1, 6);
    CHECK.due("latest(0, 2)", log.latest(0, 2), 6);
    CHECK.due("latest(0, 1)", log.latest(0, 1), 50);
    CHECK.dueReal("mean(0)", log.mean(0), 12.0);
    log.append(0, 2, 1, 7);
    CHECK.due("cut", log.latest(0, 1), -1000);
    CHECK.dueReal("mean(0) then", log.mean(0), -7.0 / 3.0);
    CHECK.due("latest(0, 9)", log.latest(0, 9), -1000);
    log.append(0, 0, 1, 44);
    CHECK.due("latest(0, 0)", log.latest(0, 0), 44);
    CHECK.dueIndex("latest(1, 10)", () -> log.latest(1, 10));
    CHECK.dueArgument("latest(0, 10)", () -> log.latest(0, 10));
    CHECK.dueArgument("latest(0, -1)", () -> log.latest(0, -1));
    CHECK.dueIndex("mean(1)", () -> log.mean(1));
    CHECK.dueIndex("mean(-1)", () -> log.mean(-1));
  }

  private static void trust() {
    PromiseLog log = new PromiseLog();
    log.set(4, 9);
    log.join(0, false);
    CHECK.dueReal("trust without any", log.trust(0), 1.0f);
    log.promise(0, 1);
    CHECK.dueReal("trust with an open one", log.trust(0), 1.0f);
    log.pass(2);
    CHECK.dueReal("one broken", log.trust(0), 0.0f);
    for (int n = 0; n < 2; n++) {
      log.promise(0, 1);
      log.append(0, 1, 1, 1);
      log.read(0, 1);
    }
    CHECK.dueReal("two of three kept", log.trust(0), 2.0f / 3.0f);
    CHECK.dueIndex("trust(1)", () -> log.trust(1));
    CHECK.dueIndex("trust(-1)", () -> log.trust(-1));
  }

  /** At AGE 3 with PATIENCE 0: one reader at the first entry with a promise to 6, one with a promise to 2. */
  private static PromiseLog waiting() {
    PromiseLog log = new PromiseLog();
    log.set(2, 3);
    log.set(3, 0);
    log.join(0, false);
    log.join(0, false);
    log.append(0, 1, 4, 1);
    log.append(0, 1, 2, 2);
    log.pass(1);
    log.append(0, 1, 1, 3);
    log.fork(0);
    log.append(1, 1, 9, 4);
    log.promise(0, 5);
    log.promise(1, 1);
    return log;
  }

  private static void ahead() {
    PromiseLog log = waiting();
    int[][] due = {{0, 0, 0, 16}, {0, 1, 0, 16}, {2, 1, 0, 10}, {4, 1, 0, 7}, {4, 1, 0, 7}, {7, 2, 6, 0}};
    for (int ticks = 1; ticks <= due.length; ticks++) {
      for (int what = 0; what < 4; what++) {
        CHECK.due("ahead(" + ticks + ", " + what + ")", log.ahead(ticks, what), due[ticks - 1][what]);
      }
    }
    CHECK.due("ahead(99, 0)", log.ahead(99, 0), 7);
    CHECK.due("nothing changes: time", log.count(7), 1);
    CHECK.due("nothing changes: acts", log.account(0), 10);
    CHECK.due("nothing changes: entries", log.count(10), 7);
    CHECK.due("as it comes", log.pass(6), 7);
    log.append(0, 1, 3, 1);
    log.promise(0, 1);
    CHECK.due("those ahead alone: cut", log.ahead(9, 0), 1);
    CHECK.due("those ahead alone: broken", log.ahead(9, 1), 1);
    CHECK.due("those ahead alone: debts", log.ahead(9, 2), 2);
    CHECK.due("the total before", log.ahead(3, 3), 3);
    CHECK.dueArgument("ahead(0, 0)", () -> log.ahead(0, 0));
    CHECK.dueArgument("ahead(100, 0)", () -> log.ahead(100, 0));
    CHECK.dueArgument("ahead(1, -1)", () -> log.ahead(1, -1));
    CHECK.dueArgument("ahead(1, 4)", () -> log.ahead(1, 4));
  }

  private static void losesIn() {
    PromiseLog log = waiting();
    CHECK.due("losesIn(0, 200)", log.losesIn(0, 200), 6);
    CHECK.due("losesIn(1, 200)", log.losesIn(1, 200), 6);
    CHECK.due("losesIn(0, 6)", log.losesIn(0, 6), 6);
    CHECK.due("losesIn(0, 5)", log.losesIn(0, 5), -1);
    log.pass(6);
    CHECK.due("nothing is left", log.losesIn(0, 200), -1);
    log.append(0, 1, 1, 1);
    CHECK.due("a debt is there", log.debt(0, 0), 3);
    CHECK.due("for the next time", log.losesIn(0, 9), 4);
    log.pass(3);
    CHECK.due("losesIn(0, 1)", log.losesIn(0, 1), 1);
    CHECK.dueIndex("losesIn(2, 0)", () -> log.losesIn(2, 0));
    CHECK.dueArgument("losesIn(0, 0)", () -> log.losesIn(0, 0));
    CHECK.dueArgument("losesIn(0, 201)", () -> log.losesIn(0, 201));
    far();
  }

  private static void far() {
    PromiseLog log = new PromiseLog();
    log.set(2, 199);
    log.join(0, false);
    log.append(0, 1, 1, 1);
    CHECK.due("within 200", log.losesIn(0, 200), 200);
    CHECK.due("not within 199", log.losesIn(0, 199), -1);
    log.set(1, 1);
    log.append(0, 1, 1, 1);
    log.set(1, 900);
    log.set(0, 1);
    log.append(0, 1, 1, 1);
    CHECK.due("as it stands without a promise", log.losesIn(0, 99), 6);
  }

  private static void wouldCut() {
    PromiseLog log = new PromiseLog();
    log.set(0, 9);
    log.set(1, 12);
    CHECK.due("none", log.wouldCut(0, 9), 0);
    log.set(0, 8);
    CHECK.due("itself", log.wouldCut(0, 9), 1);
    log.append(0, 1, 3, 1);
    log.append(0, 1, 3, 1);
    CHECK.due("a small one", log.wouldCut(0, 2), 0);
    CHECK.due("a greater one", log.wouldCut(0, 3), 1);
    CHECK.due("a great one", log.wouldCut(0, 6), 2);
    CHECK.due("the greatest one", log.wouldCut(0, 9), 3);
    log.join(0, false);
    CHECK.due("held below HARD", log.wouldCut(0, 6), 0);
    CHECK.due("held above HARD", log.wouldCut(0, 7), 1);
    CHECK.due("nothing changes", log.count(10), 2);
    CHECK.due("nothing changes", log.count(12) + log.count(13), 0);
    CHECK.due("nothing changes", log.count(11), 2);
    log.set(1, 5);
    CHECK.due("what is due anyhow", log.wouldCut(0, 1), 1);
    CHECK.dueIndex("wouldCut(1, 0)", () -> log.wouldCut(1, 0));
    CHECK.dueArgument("wouldCut(0, 0)", () -> log.wouldCut(0, 0));
    CHECK.dueArgument("wouldCut(0, 10)", () -> log.wouldCut(0, 10));
    young();
  }

  /** The new entry has the present time, so that its age cuts it never. */
  private static void young() {
    PromiseLog log = new PromiseLog();
    log.append(0, 1, 1, 1);
    log.pass(9);
    log.set(2, 1);
    CHECK.due("the old one alone", log.wouldCut(0, 1), 1);
    log.set(6, 1);
    log.join(0, true);
    CHECK.due("the new one is not read", log.wouldCut(0, 1), 1);
  }

  private static void unread() {
    PromiseLog log = new PromiseLog();
    log.join(0, false);
    for (int n = 0; n < 6; n++) {
      log.append(0, n % 2, 1, n);
    }
    CHECK.due("unread(0, 0)", log.unread(0, 0), 3);
    log.read(0, 1);
    CHECK.due("unread(0, 0) then", log.unread(0, 0), 2);
    CHECK.due("unread(0, 1) then", log.unread(0, 1), 3);
    CHECK.due("unread(0, 9)", log.unread(0, 9), 0);
    log.set(1, 3);
    log.pass(1);
    CHECK.due("its debt does not count", log.unread(0, 1), 2);
    CHECK.dueIndex("unread(1, 10)", () -> log.unread(1, 10));
    CHECK.dueArgument("unread(0, 10)", () -> log.unread(0, 10));
    CHECK.dueArgument("unread(0, -1)", () -> log.unread(0, -1));
  }

  private static void promised() {
    PromiseLog log = new PromiseLog();
    int[] ticks = {9, 4, 0, 9, 1, 4};
    for (int n = 0; n < 6; n++) {
      log.join(0, false);
      if (ticks[n] > 0) {
        log.promise(n, ticks[n]);
      }
    }
    int[] due = {4, 1, 5, 0, 3, -1, -1};
    for (int index = 0; index < due.length; index++) {
      CHECK.due("promised(" + index + ")", log.promised(index), due[index]);
    }
    CHECK.due("promised(MAX)", log.promised(Integer.MAX_VALUE), -1);
    CHECK.dueIndex("promised(-1)", () -> log.promised(-1));
    log.leave(1);
    CHECK.due("without a reader that left", log.promised(1), 5);
  }

  private static void age() {
    PromiseLog log = new PromiseLog();
    CHECK.due("age without an entry", log.age(0), -1);
    log.pass(2);
    log.append(0, 1, 1, 1);
    CHECK.due("age of a new one", log.age(0), 0);
    log.pass(5);
    log.append(0, 1, 1, 1);
    CHECK.due("age of the first one", log.age(0), 5);
    CHECK.dueIndex("age(1)", () -> log.age(1));
    CHECK.dueIndex("age(-1)", () -> log.age(-1));
  }

  private static void written(PromiseLog log, int branch, String due) {
    CHECK.due("write(" + branch + ")", log.write(branch), due.length());
    String got = Check.output(log);
    if (!got.equals(due)) {
      CHECK.say("write(" + branch + ") wrote " + got + ", due is " + due);
    }
    CHECK.due("output() behind it", log.output(due.length()), -1);
  }

  private static void output() {
    PromiseLog log = new PromiseLog();
    written(log, 0, "0:0-0");
    log.set(1, 20);
    log.join(0, false);
    log.join(0, false);
    for (int n = 0; n < 12; n++) {
      log.append(0, 1, 9, 1);
    }
    log.read(1, 1);
    log.promise(1, 20);
    log.promise(0, 5);
    written(log, 0, "0:10-12 r0=10p5! r1=10p20");
    log.fork(0);
    log.move(1, 1);
    written(log, 1, "1:10-12 r1=10p20");
    CHECK.due("output(-1)", log.output(-1), -1);
    CHECK.due("output(MAX)", log.output(Integer.MAX_VALUE), -1);
    CHECK.dueIndex("write(2)", () -> log.write(2));
    CHECK.dueIndex("write(-1)", () -> log.write(-1));
    CHECK.due("an exception leaves the output", log.output(0), '1');
    log.undo();
    log.save(0);
    log.restore(0);
    CHECK.due("undo and restore leave the output", log.output(12), '0');
    log.pass(99);
    log.pass(99);
    written(log, 0, "0:10-12 r0=10! r1=10");
    log.set(4, 9);
    log.promise(1, 4);
    PromiseLog other = new PromiseLog();
    other.set(1, 1);
    other.join(0, true);
    other.append(0, 1, 2, 1);
    written(other, 0, "0:1-1 r0=1!");
    written(log, 0, "0:10-12 r0=10! r1=10p202");
  }
}
