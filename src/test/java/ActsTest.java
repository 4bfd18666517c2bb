/** Promises 16 to 25: the acts and their reasons. */
public final class ActsTest {
  private static final Check CHECK = new Check();

  public static void main(String[] args) {
    append();
    appendAndCut();
    join();
    leave();
    read();
    readKeeps();
    promise();
    move();
    moveAmongSiblings();
    fork();
    merge();
    mergeBehindCuts();
    mergeRefused();
    drop();
    pass();
    CHECK.end();
  }

  private static void refused(PromiseLog log, int reason, int count, String call, int got) {
    CHECK.due(call, got, -10 - reason);
    CHECK.due(call + ": account(" + reason + ")", log.account(reason), count);
  }

  private static void append() {
    PromiseLog log = new PromiseLog();
    CHECK.due("append()", log.append(0, 0, 1, -99), 0);
    CHECK.due("append() again", log.append(0, 9, 9, 99), 1);
    CHECK.due("account(0)", log.account(0), 2);
    CHECK.dueIndex("append(1, ..)", () -> log.append(1, 10, 0, 100));
    CHECK.dueIndex("append(-1, ..)", () -> log.append(-1, 0, 1, 0));
    CHECK.dueArgument("key -1", () -> log.append(0, -1, 1, 0));
    CHECK.dueArgument("key 10", () -> log.append(0, 10, 1, 0));
    CHECK.dueArgument("size 0", () -> log.append(0, 0, 0, 0));
    CHECK.dueArgument("size 10", () -> log.append(0, 0, 10, 0));
    CHECK.dueArgument("value -100", () -> log.append(0, 0, 1, -100));
    CHECK.dueArgument("value 100", () -> log.append(0, 0, 1, 100));
    CHECK.due("an exception changes nothing", log.count(16), 2);
    CHECK.due("account(0) then", log.account(0), 2);
  }

  private static void appendAndCut() {
    PromiseLog log = new PromiseLog();
    log.set(0, 5);
    log.set(1, 8);
    CHECK.due("cut at once", log.append(0, 1, 6, 3), 0);
    CHECK.due("FIRST", log.branch(0, 0), 1);
    CHECK.due("count(13)", log.count(13), 1);
    log.join(0, true);
    CHECK.due("held at its END", log.append(0, 1, 8, 3), 1);
    CHECK.due("not cut", log.count(10), 1);
    CHECK.due("above HARD", log.append(0, 1, 9, 4), 2);
    CHECK.due("both are cut", log.count(12), 2);
    CHECK.due("both are in its debt", log.debt(0, 0), 2);
    CHECK.due("its place", log.reader(0, 1), 3);
    log.set(0, 400);
    log.append(0, 1, 8, 1);
    CHECK.due("at HARD, not above", log.count(10), 1);
  }

  private static void join() {
    PromiseLog log = new PromiseLog();
    log.set(0, 4);
    log.append(0, 1, 4, 1);
    log.append(0, 1, 4, 1);
    log.pass(7);
    CHECK.due("join at FIRST", log.join(0, false), 0);
    CHECK.due("join at END", log.join(0, true), 1);
    CHECK.due("its place is FIRST", log.reader(0, 1), 1);
    CHECK.due("its place is END", log.reader(1, 1), 2);
    CHECK.due("it is seen", log.reader(0, 2), 7);
    CHECK.due("no promise", log.reader(0, 3), -1);
    for (int n = 2; n < 6; n++) {
      CHECK.due("join", log.join(0, true), n);
    }
    int acts = log.account(0);
    refused(log, 1, 1, "a 7th", log.join(0, true));
    CHECK.due("a refusal is no act", log.account(0), acts);
    CHECK.dueIndex("no such branch comes first", () -> log.join(1, true));
    log.leave(3);
    log.leave(1);
    CHECK.due("the lowest number", log.join(0, false), 1);
    CHECK.due("the lowest number again", log.join(0, false), 3);
  }

  private static void leave() {
    PromiseLog log = new PromiseLog();
    log.set(1, 5);
    log.join(0, false);
    log.join(0, false);
    log.promise(0, 2);
    log.append(0, 1, 9, 5);
    log.pass(3);
    CHECK.due("broken", log.reader(0, 5), 1);
    log.promise(0, 2);
    CHECK.due("leave()", log.leave(0), 1);
    CHECK.dueIndex("it is there no more", () -> log.leave(0));
    CHECK.dueIndex("leave(-1)", () -> log.leave(-1));
    CHECK.dueIndex("leave(6)", () -> log.leave(6));
    CHECK.due("its promise is there no more", log.promised(0), -1);
    log.join(0, false);
    CHECK.due("a new reader has no debt", log.debt(0, 0), 0);
    CHECK.due("a new reader owes no value", log.debtOf(0, 1), -1000);
    CHECK.due("a new reader broke none", log.reader(0, 5), 0);
    log.set(1, 90);
    log.read(1, 9);
    log.append(0, 1, 1, 1);
    log.promise(1, 1);
    log.read(1, 9);
    log.leave(1);
    log.join(0, false);
    for (int what = 4; what <= 10; what++) {
      CHECK.due("a new reader: reader(1, " + what + ")", log.reader(1, what), what >= 6 && what <= 8 ? 1 : 0);
    }
    CHECK.due("a new reader has no promise", log.reader(0, 3), -1);
    CHECK.due("leave the last but one", log.leave(1), 1);
    CHECK.due("leave the last", log.leave(0), 0);
  }

  private static void read() {
    PromiseLog log = new PromiseLog();
    log.set(1, 10);
    log.join(0, false);
    log.append(0, 1, 5, 1);
    log.append(0, 2, 5, 2);
    log.append(0, 3, 5, 3);
    log.append(0, 4, 5, 4);
    CHECK.due("a summary is one item", log.read(0, 1), 1);
    CHECK.due("it is a summary", log.item(0, 0), 1);
    CHECK.due("no entry was read", log.reader(0, 1), 2);
    CHECK.due("the others", log.read(0, 99), 2);
    CHECK.due("its place is END", log.reader(0, 1), 4);
    CHECK.due("entries read", log.reader(0, 9), 2);
    CHECK.due("summaries read", log.reader(0, 10), 1);
    log.pass(2);
    refused(log, 10, 1, "nothing to read", log.read(0, 1));
    CHECK.due("it is not seen", log.reader(0, 2), 0);
    CHECK.dueIndex("read(1, 0)", () -> log.read(1, 0));
    CHECK.dueArgument("read(0, 0)", () -> log.read(0, 0));
    CHECK.dueArgument("read(0, 100)", () -> log.read(0, 100));
    CHECK.due("account(10) then", log.account(10), 1);
    many();
  }

  private static void many() {
    PromiseLog log = new PromiseLog();
    log.set(0, 400);
    log.set(1, 900);
    log.join(0, false);
    for (int n = 0; n < 120; n++) {
      log.append(0, n % 10, 1, n % 100);
    }
    CHECK.due("at most 99", log.read(0, 99), 99);
    CHECK.due("the last of them", log.item(98, 4), 98);
    CHECK.due("its position", log.item(98, 1), 98);
    CHECK.due("the rest", log.read(0, 99), 21);
    CHECK.due("the first of them", log.item(0, 1), 99);
    log.append(0, 1, 1, 1);
    log.set(1, 1);
    log.pass(1);
    CHECK.due("only the summary is left", log.read(0, 99), 1);
  }

  private static void readKeeps() {
    PromiseLog log = new PromiseLog();
    log.join(0, false);
    log.promise(0, 2);
    refused(log, 10, 1, "nothing to read", log.read(0, 5));
    CHECK.due("it keeps no promise", log.reader(0, 3), 2);
    log.append(0, 1, 1, 1);
    log.pass(2);
    log.read(0, 5);
    CHECK.due("kept at its time", log.reader(0, 4), 1);
    CHECK.due("none any more", log.reader(0, 3), -1);
    CHECK.due("seen", log.reader(0, 2), 2);
    log.append(0, 1, 1, 1);
    log.read(0, 5);
    CHECK.due("kept without a promise", log.reader(0, 4), 1);
    log.pass(9);
    CHECK.due("none to break", log.reader(0, 5), 0);
  }

  private static void promise() {
    PromiseLog log = new PromiseLog();
    log.join(0, false);
    log.pass(4);
    CHECK.dueIndex("promise(1, 0)", () -> log.promise(1, 0));
    CHECK.dueArgument("promise(0, 0)", () -> log.promise(0, 0));
    CHECK.dueArgument("promise(0, 21)", () -> log.promise(0, 21));
    CHECK.due("promise(0, 20)", log.promise(0, 20), 24);
    CHECK.due("it is not seen", log.reader(0, 2), 0);
    refused(log, 4, 1, "a second one", log.promise(0, 1));
    CHECK.dueArgument("an exception comes ahead of a refusal", () -> log.promise(0, 21));
    log.pass(20);
    CHECK.due("not broken at its time", log.reader(0, 5), 0);
    log.pass(1);
    CHECK.due("broken behind it", log.reader(0, 5), 1);
    log.promise(0, 1);
    log.pass(2);
    refused(log, 3, 1, "STRIKES", log.promise(0, 1));
    log.set(4, 3);
    CHECK.due("below STRIKES", log.promise(0, 1), 28);
    log.set(4, 1);
    refused(log, 3, 2, "3 comes ahead of 4", log.promise(0, 1));
    log.set(5, 60);
    log.set(4, 9);
    refused(log, 4, 2, "LONGEST 60", log.promise(0, 60));
  }

  private static void move() {
    PromiseLog log = new PromiseLog();
    log.append(0, 1, 1, 1);
    log.append(0, 1, 1, 2);
    log.join(0, false);
    log.join(0, true);
    log.promise(0, 9);
    log.fork(0);
    log.append(0, 1, 1, 3);
    log.append(1, 1, 1, 4);
    log.pass(3);
    refused(log, 5, 1, "it is there already", log.move(0, 0));
    CHECK.due("move(0, 1)", log.move(0, 1), 0);
    CHECK.due("its branch", log.reader(0, 0), 1);
    CHECK.due("it is seen", log.reader(0, 2), 3);
    CHECK.due("its promise stays", log.reader(0, 3), 9);
    CHECK.due("at FORK", log.move(1, 1), 2);
    log.read(1, 1);
    refused(log, 5, 2, "behind FORK", log.move(1, 0));
    CHECK.due("back", log.move(0, 0), 0);
    CHECK.dueIndex("no such reader", () -> log.move(2, 0));
    CHECK.dueIndex("no such branch", () -> log.move(0, 2));
    CHECK.dueIndex("no such branch -1", () -> log.move(0, -1));
    log.move(0, 1);
    log.set(0, 1);
    log.set(3, 0);
    log.append(0, 1, 1, 9);
    CHECK.due("FIRST of the other branch", log.branch(0, 0), 3);
    refused(log, 5, 3, "below FIRST", log.move(0, 0));
    owing();
  }

  private static void owing() {
    PromiseLog log = new PromiseLog();
    log.join(0, false);
    log.append(0, 1, 4, 7);
    log.append(0, 1, 4, 8);
    log.set(1, 7);
    log.pass(1);
    CHECK.due("a debt of one", log.debt(0, 0), 1);
    log.fork(0);
    log.move(0, 1);
    CHECK.due("its debt stays", log.debt(0, 2), 7);
    log.append(1, 2, 5, 9);
    CHECK.due("its debt goes on", log.debt(0, 2), 15);
    CHECK.due("its first position", log.debt(0, 5), 0);
    CHECK.due("its last position", log.debt(0, 6), 1);
  }

  private static void moveAmongSiblings() {
    PromiseLog log = new PromiseLog();
    log.append(0, 1, 1, 1);
    log.fork(0);
    log.append(0, 1, 1, 2);
    log.fork(0);
    log.append(1, 1, 1, 3);
    log.join(1, false);
    log.read(0, 1);
    CHECK.due("at common() of both", log.move(0, 2), 1);
    log.read(0, 1);
    refused(log, 5, 1, "behind common()", log.move(0, 1));
    CHECK.due("to the parent", log.move(0, 0), 2);
  }

  private static void fork() {
    PromiseLog log = new PromiseLog();
    log.set(0, 8);
    log.append(0, 1, 4, 1);
    log.append(0, 2, 4, 2);
    log.append(0, 3, 4, 3);
    log.join(0, false);
    CHECK.due("fork(0)", log.fork(0), 1);
    CHECK.due("no readers are copied", log.branch(1, 5), 0);
    CHECK.due("the same entries", log.entry(1, 2, 3), 3);
    CHECK.due("the same FIRST", log.branch(1, 0), 1);
    CHECK.due("FORK", log.branch(1, 4), 3);
    log.append(1, 9, 1, 9);
    CHECK.due("cut for itself", log.branch(1, 0), 2);
    CHECK.due("not the parent", log.branch(0, 0), 1);
    CHECK.due("its own cuts", log.branch(1, 7), 1);
    CHECK.due("fork(1)", log.fork(1), 2);
    CHECK.due("FORK of 2", log.branch(2, 4), 4);
    CHECK.due("no cuts when it begins", log.branch(2, 7), 0);
    CHECK.due("fork(2)", log.fork(2), 3);
    refused(log, 2, 1, "a 5th", log.fork(0));
    CHECK.dueIndex("fork(4)", () -> log.fork(4));
    CHECK.dueIndex("fork(-1)", () -> log.fork(-1));
    log.drop(3);
    log.drop(2);
    CHECK.due("the lowest number", log.fork(0), 2);
    CHECK.dueIndex("fork(3)", () -> log.fork(3));
  }

  private static void merge() {
    PromiseLog log = new PromiseLog();
    log.append(0, 1, 1, 1);
    log.append(0, 1, 1, 2);
    log.fork(0);
    log.pass(1);
    log.append(1, 2, 2, 3);
    log.append(1, 2, 2, 4);
    log.pass(1);
    log.append(0, 3, 3, 5);
    log.join(1, true);
    log.join(1, true);
    log.undo();
    log.join(0, false);
    log.promise(0, 5);
    log.pass(1);
    CHECK.due("merge(1)", log.merge(1), 2);
    CHECK.due("END", log.branch(0, 1), 5);
    CHECK.due("with their times", log.entry(0, 3, 0), 1);
    CHECK.due("in their order", log.entry(0, 4, 3), 4);
    CHECK.due("total", log.branch(0, 2), 9);
    CHECK.due("its reader is in the parent", log.reader(0, 0), 0);
    CHECK.due("its place", log.reader(0, 1), 5);
    CHECK.due("it is not seen", log.reader(0, 2), 2);
    CHECK.due("it keeps its promise", log.reader(0, 3), 7);
    CHECK.due("the parent's reader stays", log.reader(1, 1), 0);
    CHECK.due("branches", log.count(8), 1);
    CHECK.dueIndex("it is there no more", () -> log.branch(1, 0));
    CHECK.dueIndex("merge(1) again", () -> log.merge(1));
    log.fork(0);
    CHECK.due("nothing to append", log.merge(1), 0);
  }

  private static void mergeBehindCuts() {
    PromiseLog log = new PromiseLog();
    log.set(1, 6);
    log.append(0, 1, 2, 1);
    log.fork(0);
    log.join(1, false);
    for (int n = 0; n < 6; n++) {
      log.append(1, 2, 2, 10 + n);
    }
    CHECK.due("FIRST is behind FORK", log.branch(1, 0), 4);
    CHECK.due("a debt", log.debt(0, 0), 4);
    log.read(0, 2);
    CHECK.due("its place", log.reader(0, 1), 5);
    log.append(1, 2, 2, 16);
    CHECK.due("a new FIRST", log.branch(1, 0), 5);
    log.set(0, 400);
    CHECK.due("merge(1)", log.merge(1), 3);
    CHECK.due("the parent is cut", log.branch(0, 0), 1);
    CHECK.due("END", log.branch(0, 1), 4);
    CHECK.due("one behind the other", log.entry(0, 1, 3), 14);
    CHECK.due("its place in the parent", log.reader(0, 1), 1);
    CHECK.due("own cuts of the parent", log.branch(0, 7), 1);
  }

  private static void mergeRefused() {
    PromiseLog log = new PromiseLog();
    log.append(0, 1, 1, 1);
    log.fork(0);
    log.fork(1);
    log.join(1, false);
    refused(log, 6, 1, "merge(0)", log.merge(0));
    refused(log, 7, 1, "7 comes ahead of 9", log.merge(1));
    log.drop(2);
    refused(log, 9, 1, "a place ahead of FORK", log.merge(1));
    log.read(0, 1);
    CHECK.due("at FORK", log.merge(1), 0);
    CHECK.dueIndex("merge(3)", () -> log.merge(3));
    CHECK.dueIndex("merge(-1)", () -> log.merge(-1));
    CHECK.due("its place", log.reader(0, 1), 1);
  }

  private static void drop() {
    PromiseLog log = new PromiseLog();
    log.append(0, 1, 1, 1);
    log.append(0, 1, 1, 1);
    log.fork(0);
    log.fork(1);
    log.append(2, 1, 1, 1);
    log.join(1, false);
    refused(log, 6, 1, "drop(0)", log.drop(0));
    refused(log, 7, 1, "7 comes ahead of 8", log.drop(1));
    CHECK.due("drop(2)", log.drop(2), 3);
    refused(log, 8, 1, "a reader is in it", log.drop(1));
    log.leave(0);
    CHECK.due("drop(1)", log.drop(1), 2);
    CHECK.due("nothing was cut", log.count(12) + log.count(13) + log.count(14) + log.count(15), 0);
    CHECK.due("entries", log.count(10), 2);
    CHECK.due("children", log.branch(0, 6), 0);
    CHECK.dueIndex("drop(1) again", () -> log.drop(1));
    log.set(1, 1);
    log.pass(1);
    CHECK.due("FIRST", log.branch(0, 0), 1);
    log.fork(0);
    CHECK.due("drop() behind a cut", log.drop(1), 1);
    CHECK.dueIndex("drop(4)", () -> log.drop(4));
  }

  private static void pass() {
    PromiseLog log = new PromiseLog();
    CHECK.dueArgument("pass(0)", () -> log.pass(0));
    CHECK.dueArgument("pass(100)", () -> log.pass(100));
    CHECK.dueArgument("pass(-1)", () -> log.pass(-1));
    log.set(2, 3);
    log.append(0, 1, 1, 1);
    log.append(0, 1, 1, 2);
    CHECK.due("at AGE", log.pass(3), 0);
    CHECK.due("above AGE", log.pass(1), 2);
    CHECK.due("count(14)", log.count(14), 2);
    log.append(0, 1, 1, 1);
    log.fork(0);
    CHECK.due("all branches", log.pass(99), 2);
    CHECK.due("time", log.count(7), 103);
    CHECK.due("one act", log.undo(), 6);
    CHECK.due("time", log.count(7), 4);
    held();
  }

  /** A promise is broken ahead of the cuts of the same tick. */
  private static void held() {
    PromiseLog log = new PromiseLog();
    log.set(2, 1);
    log.set(3, 0);
    log.join(0, false);
    log.append(0, 1, 1, 1);
    log.promise(0, 4);
    CHECK.due("held to the promise", log.pass(4), 0);
    CHECK.due("cut in the tick that breaks it", log.pass(1), 1);
    CHECK.due("in its debt", log.debt(0, 0), 1);
  }
}
