/** Promises 1 and 7 to 15: a new object, settings and numbers. */
public final class NumbersTest {
  private static final Check CHECK = new Check();

  public static void main(String[] args) {
    newObject();
    settings();
    settingsOutOfRange();
    counts();
    branches();
    entries();
    readers();
    debts();
    items();
    accounts();
    CHECK.end();
  }

  private static void newObject() {
    PromiseLog log = new PromiseLog();
    int[] due = {60, 120, 0, 5, 2, 20, 0, 0, 1, 0, 0, 0, 0, 0, 0, 0, 0, 0};
    for (int what = 0; what < due.length; what++) {
      CHECK.due("new: count(" + what + ")", log.count(what), due[what]);
    }
    int[] dueOfBranch = {0, 0, 0, -1, -1, 0, 0, 0};
    for (int what = 0; what < dueOfBranch.length; what++) {
      CHECK.due("new: branch(0, " + what + ")", log.branch(0, what), dueOfBranch[what]);
    }
    for (int what = 0; what <= 10; what++) {
      CHECK.due("new: account(" + what + ")", log.account(what), 0);
    }
    CHECK.due("new: errorCode()", log.errorCode(), 0);
    CHECK.due("new: errorPosition()", log.errorPosition(), -1);
    CHECK.due("new: truncateText(0)", log.truncateText(0), 0);
    CHECK.dueArgument("new: truncateText(1)", () -> log.truncateText(1));
    CHECK.due("new: output(0)", log.output(0), -1);
    CHECK.due("new: undo()", log.undo(), -1);
    CHECK.dueIndex("new: item(0, 0)", () -> log.item(0, 0));
    CHECK.dueState("new: restore(0)", () -> log.restore(0));
    CHECK.dueState("new: restore(1)", () -> log.restore(1));
  }

  private static void settings() {
    int[] least = {1, 1, 0, 0, 1, 1, 0};
    int[] most = {400, 900, 500, 99, 9, 60, 1};
    int[] first = {60, 120, 0, 5, 2, 20, 0};
    PromiseLog log = new PromiseLog();
    for (int what = 0; what < 7; what++) {
      int asked = what;
      CHECK.due("set(" + what + ", least)", log.set(what, least[what]), first[what]);
      CHECK.due("set(" + what + ", most)", log.set(what, most[what]), least[what]);
      CHECK.due("count(" + what + ")", log.count(what), most[what]);
      CHECK.dueArgument("set(" + what + ", least - 1)", () -> log.set(asked, least[asked] - 1));
      CHECK.dueArgument("set(" + what + ", most + 1)", () -> log.set(asked, most[asked] + 1));
      CHECK.due("unchanged count(" + what + ")", log.count(what), most[what]);
    }
    CHECK.due("set() is no act: account(0)", log.account(0), 0);
    CHECK.due("set() is no act: count(16)", log.count(16), 0);
  }

  private static void settingsOutOfRange() {
    PromiseLog log = new PromiseLog();
    for (int value = 0; value <= 1; value++) {
      int asked = value;
      CHECK.dueArgument("set(-1, " + value + ")", () -> log.set(-1, asked));
      CHECK.dueArgument("set(7, " + value + ")", () -> log.set(7, asked));
    }
    log.append(0, 1, 9, 1);
    log.append(0, 1, 9, 1);
    log.set(0, 1);
    log.set(1, 1);
    CHECK.due("nothing is cut by set(): count(10)", log.count(10), 2);
    CHECK.due("cause(0) behind set()", log.cause(0), 0);
    log.undo();
    CHECK.due("settings stay at an undo", log.count(1), 1);
  }

  private static void counts() {
    PromiseLog log = new PromiseLog();
    CHECK.dueArgument("count(-1)", () -> log.count(-1));
    CHECK.dueArgument("count(18)", () -> log.count(18));
    log.join(0, false);
    log.append(0, 1, 5, 10);
    log.append(0, 2, 5, 20);
    log.fork(0);
    log.append(1, 3, 5, 30);
    log.pass(3);
    CHECK.due("count(7)", log.count(7), 3);
    CHECK.due("count(8)", log.count(8), 2);
    CHECK.due("count(9)", log.count(9), 1);
    CHECK.due("count(10) with a copy", log.count(10), 5);
    CHECK.due("count(11)", log.count(11), 3);
    CHECK.due("count(16)", log.count(16), 6);
    log.read(0, 2);
    CHECK.due("count(17)", log.count(17), 2);
    log.merge(1);
    CHECK.due("count(11) behind a merge", log.count(11), 3);
    CHECK.due("count(16) at most 8", log.count(16), 8);
    log.pass(1);
    CHECK.due("count(16) at most 8, still", log.count(16), 8);
    causes();
  }

  private static void causes() {
    PromiseLog log = new PromiseLog();
    log.set(0, 10);
    log.set(1, 20);
    log.join(0, false);
    for (int i = 0; i < 3; i++) {
      log.append(0, 1, 9, i);
    }
    CHECK.due("cut above HARD though it is held: count(12)", log.count(12), 1);
    log.pass(5);
    CHECK.due("held with PATIENCE 5: count(13)", log.count(13), 0);
    log.pass(1);
    CHECK.due("no more covered: count(13)", log.count(13), 1);
    log.set(2, 3);
    log.pass(1);
    CHECK.due("too old: count(14)", log.count(14), 1);
    CHECK.due("none left", log.count(10), 0);
    log.set(2, 0);
    log.set(6, 1);
    log.append(0, 1, 1, 5);
    log.append(0, 1, 1, 6);
    CHECK.due("not read: count(15)", log.count(15), 0);
    log.read(0, 3);
    CHECK.due("nothing is cut by a reading: count(10)", log.count(10), 2);
    CHECK.due("cause 3", log.cause(0), 3);
    log.pass(1);
    CHECK.due("read by all: count(15)", log.count(15), 2);
    CHECK.due("branch(0, 7)", log.branch(0, 7), 5);
  }

  private static void branches() {
    PromiseLog log = new PromiseLog();
    log.set(0, 9);
    log.append(0, 1, 4, 1);
    log.append(0, 1, 4, 2);
    log.append(0, 1, 4, 3);
    CHECK.due("FIRST", log.branch(0, 0), 1);
    CHECK.due("END", log.branch(0, 1), 3);
    CHECK.due("total", log.branch(0, 2), 8);
    CHECK.due("own cuts", log.branch(0, 7), 1);
    log.fork(0);
    log.fork(1);
    log.join(1, true);
    log.join(1, false);
    int[] due = {1, 3, 8, 0, 3, 2, 1, 0};
    for (int what = 0; what < due.length; what++) {
      CHECK.due("branch(1, " + what + ")", log.branch(1, what), due[what]);
    }
    CHECK.due("parent of 2", log.branch(2, 3), 1);
    CHECK.due("children of 0", log.branch(0, 6), 1);
    CHECK.dueIndex("branch(3, 0)", () -> log.branch(3, 0));
    CHECK.dueIndex("branch(4, 0)", () -> log.branch(4, 0));
    CHECK.dueIndex("branch(-1, 9)", () -> log.branch(-1, 9));
    CHECK.dueArgument("branch(0, -1)", () -> log.branch(0, -1));
    CHECK.dueArgument("branch(0, 8)", () -> log.branch(0, 8));
  }

  private static void entries() {
    PromiseLog log = new PromiseLog();
    log.set(0, 9);
    log.append(0, 1, 9, 1);
    log.join(0, true);
    log.pass(4);
    log.append(0, 7, 3, -99);
    log.join(0, false);
    log.pass(9);
    log.append(0, 8, 2, 99);
    CHECK.due("FIRST", log.branch(0, 0), 1);
    int[] due = {4, 7, 3, -99, 2};
    for (int what = 0; what < due.length; what++) {
      CHECK.due("entry(0, 1, " + what + ")", log.entry(0, 1, what), due[what]);
    }
    CHECK.due("entry(0, 2, 0)", log.entry(0, 2, 0), 13);
    log.read(0, 1);
    CHECK.due("entry(0, 1, 4) behind a reading", log.entry(0, 1, 4), 1);
    CHECK.due("entry(0, 2, 4) behind a reading", log.entry(0, 2, 4), 2);
    log.read(0, 1);
    CHECK.due("entry(0, 2, 4) behind the next", log.entry(0, 2, 4), 1);
    CHECK.dueIndex("entry(0, 0, 0), which was cut", () -> log.entry(0, 0, 0));
    log.append(0, 9, 1, 1);
    log.undo();
    CHECK.dueIndex("entry(0, 3, 0), which is not yet", () -> log.entry(0, 3, 0));
    CHECK.dueIndex("entry(0, -1, 9)", () -> log.entry(0, -1, 9));
    CHECK.dueIndex("entry(1, 1, 0)", () -> log.entry(1, 1, 0));
    CHECK.dueIndex("entry(0, MIN, 0)", () -> log.entry(0, Integer.MIN_VALUE, 0));
    CHECK.dueIndex("entry(0, MAX, 0)", () -> log.entry(0, Integer.MAX_VALUE, 0));
    CHECK.dueArgument("entry(0, 1, 5)", () -> log.entry(0, 1, 5));
    CHECK.dueArgument("entry(0, 1, -1)", () -> log.entry(0, 1, -1));
  }

  private static void readers() {
    PromiseLog log = new PromiseLog();
    log.pass(2);
    log.append(0, 1, 4, 1);
    log.append(0, 1, 5, 1);
    log.join(0, false);
    log.promise(0, 3);
    int[] due = {0, 0, 2, 5, 0, 0, 1, 2, 9, 0, 0};
    for (int what = 0; what < due.length; what++) {
      CHECK.due("reader(0, " + what + ")", log.reader(0, what), due[what]);
    }
    log.pass(1);
    log.read(0, 1);
    int[] dueThen = {0, 1, 3, -1, 1, 0, 1, 1, 5, 1, 0};
    for (int what = 0; what < dueThen.length; what++) {
      CHECK.due("then reader(0, " + what + ")", log.reader(0, what), dueThen[what]);
    }
    log.pass(5);
    CHECK.due("covered at PATIENCE", log.reader(0, 6), 1);
    log.pass(1);
    CHECK.due("not covered behind PATIENCE", log.reader(0, 6), 0);
    log.promise(0, 1);
    CHECK.due("covered by a promise", log.reader(0, 6), 1);
    log.pass(2);
    CHECK.due("broken", log.reader(0, 5), 1);
    CHECK.due("no promise any more", log.reader(0, 3), -1);
    CHECK.dueIndex("reader(1, 0)", () -> log.reader(1, 0));
    CHECK.dueIndex("reader(-1, 11)", () -> log.reader(-1, 11));
    CHECK.dueIndex("reader(6, 0)", () -> log.reader(6, 0));
    CHECK.dueArgument("reader(0, 11)", () -> log.reader(0, 11));
    CHECK.dueArgument("reader(0, -1)", () -> log.reader(0, -1));
  }

  /** A log whose reader 0 has the entries 0 to 2 in its debt. */
  private static PromiseLog owing() {
    PromiseLog log = new PromiseLog();
    log.set(1, 8);
    log.join(0, false);
    log.append(0, 3, 4, -7);
    log.append(0, 5, 2, 40);
    log.append(0, 3, 1, 9);
    log.append(0, 2, 8, 1);
    return log;
  }

  private static void debts() {
    PromiseLog log = owing();
    int[] due = {3, 7, 42, -7, 40, 0, 2};
    for (int what = 0; what < due.length; what++) {
      CHECK.due("debt(0, " + what + ")", log.debt(0, what), due[what]);
    }
    CHECK.due("debtOf(0, 3): the latest", log.debtOf(0, 3), 9);
    CHECK.due("debtOf(0, 5)", log.debtOf(0, 5), 40);
    CHECK.due("debtOf(0, 2)", log.debtOf(0, 2), -1000);
    CHECK.due("its place is FIRST", log.reader(0, 1), 3);
    log.append(0, 9, 1, 2);
    CHECK.due("one more", log.debt(0, 0), 4);
    CHECK.due("debtOf(0, 2) then", log.debtOf(0, 2), 1);
    log.read(0, 1);
    log.set(1, 1);
    log.append(0, 0, 1, 33);
    log.append(0, 0, 2, 34);
    CHECK.due("debtOf(0, 0)", log.debtOf(0, 0), 34);
    log.read(0, 1);
    CHECK.due("debtOf(0, 0) behind a reading", log.debtOf(0, 0), -1000);
    log.append(0, 5, 2, 35);
    CHECK.due("a debt of one", log.debt(0, 0), 1);
    CHECK.due("a summary of one", log.read(0, 3), 1);
    CHECK.due("a summary of one", log.item(0, 0), 1);
    CHECK.due("a summary of one", log.item(0, 3), 35);
    int[] without = {0, 0, 0, -1000, -1000, -1, -1};
    for (int what = 0; what < without.length; what++) {
      CHECK.due("without a debt: debt(0, " + what + ")", log.debt(0, what), without[what]);
    }
    CHECK.due("without a debt: debtOf(0, 3)", log.debtOf(0, 3), -1000);
    CHECK.dueIndex("debt(1, 9)", () -> log.debt(1, 9));
    CHECK.dueIndex("debt(-1, 0)", () -> log.debt(-1, 0));
    CHECK.dueArgument("debt(0, 7)", () -> log.debt(0, 7));
    CHECK.dueArgument("debt(0, -1)", () -> log.debt(0, -1));
    CHECK.dueIndex("debtOf(1, 10)", () -> log.debtOf(1, 10));
    CHECK.dueIndex("debtOf(6, 0)", () -> log.debtOf(6, 0));
    CHECK.dueArgument("debtOf(0, 10)", () -> log.debtOf(0, 10));
    CHECK.dueArgument("debtOf(0, -1)", () -> log.debtOf(0, -1));
  }

  private static void items() {
    PromiseLog log = owing();
    CHECK.due("read(0, 9)", log.read(0, 9), 2);
    int[] summary = {1, 3, 7, 42, -7, 40, 0, 2};
    int[] entry = {0, 3, 2, 8, 1, -1, -1, -1};
    for (int what = 0; what < 8; what++) {
      CHECK.due("item(0, " + what + ")", log.item(0, what), summary[what]);
      CHECK.due("item(1, " + what + ")", log.item(1, what), entry[what]);
    }
    CHECK.due("summaries read", log.reader(0, 10), 1);
    CHECK.due("entries read", log.reader(0, 9), 1);
    CHECK.dueIndex("item(2, 0)", () -> log.item(2, 0));
    CHECK.dueIndex("item(-1, 9)", () -> log.item(-1, 9));
    CHECK.dueArgument("item(0, 8)", () -> log.item(0, 8));
    CHECK.dueArgument("item(1, -1)", () -> log.item(1, -1));
    log.read(0, 9);
    CHECK.due("a refused reading leaves the delivery", log.count(17), 2);
    log.undo();
    CHECK.due("an undo leaves the delivery", log.item(0, 3), 42);
    log.append(0, 4, 1, 4);
    log.append(0, 4, 1, 5);
    log.read(0, 1);
    CHECK.due("a new delivery", log.count(17), 1);
    CHECK.dueIndex("item(1, 0) of a new delivery", () -> log.item(1, 0));
  }

  private static void accounts() {
    PromiseLog log = new PromiseLog();
    CHECK.dueArgument("account(-1)", () -> log.account(-1));
    CHECK.dueArgument("account(11)", () -> log.account(11));
    log.append(0, 1, 1, 1);
    log.merge(0);
    log.drop(0);
    log.undo();
    CHECK.due("acts that were undone count", log.account(0), 1);
    CHECK.due("refusals", log.account(6), 2);
    log.save(0);
    log.pass(1);
    log.restore(0);
    CHECK.due("accounts stay at a restore", log.account(0), 2);
  }
}
