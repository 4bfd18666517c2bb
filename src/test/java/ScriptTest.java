/** Promises 2 to 6: the text buffer, scripts and their errors. */
public final class ScriptTest {
  private static final Check CHECK = new Check();

  public static void main(String[] args) {
    buffer();
    commands();
    stops();
    tokens();
    notAllowed();
    outOfRange();
    tooEarly();
    manyCommands();
    latestError();
    CHECK.end();
  }

  private static void buffer() {
    PromiseLog log = new PromiseLog();
    for (int n = 1; n <= 175; n++) {
      CHECK.due("appendText()", log.appendText(0x20202020), 4 * n);
    }
    CHECK.dueState("appendText() above 700", () -> log.appendText(0x20202020));
    CHECK.due("nothing changed", log.truncateText(700), 700);
    CHECK.dueArgument("truncateText(701)", () -> log.truncateText(701));
    CHECK.dueArgument("truncateText(-1)", () -> log.truncateText(-1));
    CHECK.due("truncateText(697)", log.truncateText(697), 697);
    CHECK.dueState("appendText() above 700 from 697", () -> log.appendText(0));
    CHECK.due("truncateText(696)", log.truncateText(696), 696);
    CHECK.due("appendText() to 700", log.appendText(0x20202020), 700);
    CHECK.due("blanks alone are a script", log.runScript(), 0);
    CHECK.due("the buffer is empty then", log.appendText(0), 4);
    CHECK.due("bytes of no token", log.runScript(), -1);
    CHECK.due("the buffer is empty, too", log.appendText(0x3b000000), 4);
    order();
  }

  private static void order() {
    PromiseLog log = new PromiseLog();
    log.appendText('j' << 24 | 'o' << 16 | 'i' << 8 | 'n');
    log.appendText(' ' << 24 | '0' << 16 | ';' << 8 | 0xff);
    CHECK.due("a byte above 127", log.runScript(), -1);
    CHECK.due("its code", log.errorCode(), 1);
    CHECK.due("its position", log.errorPosition(), 7);
    log.appendText('j' << 24 | 'o' << 16 | 'i' << 8 | 'n');
    log.appendText(' ' << 24 | '0' << 16 | ';' << 8 | 0xff);
    log.truncateText(7);
    CHECK.due("the highest byte first", log.runScript(), 1);
  }

  private static void commands() {
    PromiseLog log = new PromiseLog();
    CHECK.due("nothing", Check.run(log, ""), 0);
    CHECK.due("all commands", Check.run(log, "append 0 1 2 -3;join 0;join 0 end;read 0 1;promise 1 7;fork 0;"
        + "append 1 9 9 99;move 1 1;ticks 3;append 0 0 1 -99;"), 10);
    CHECK.due("value", log.entry(0, 0, 3), -3);
    CHECK.due("key", log.entry(0, 0, 1), 1);
    CHECK.due("size", log.entry(0, 0, 2), 2);
    CHECK.due("joined at FIRST, read one", log.reader(0, 1), 1);
    CHECK.due("joined at the end", log.reader(1, 1), 1);
    CHECK.due("promised", log.reader(1, 3), 7);
    CHECK.due("moved", log.reader(1, 0), 1);
    CHECK.due("ticks", log.count(7), 3);
    CHECK.due("least value", log.entry(0, 1, 3), -99);
    CHECK.due("each an act of its own", log.account(0), 10);
    CHECK.due("at most 8 can be undone", log.count(16), 8);
    CHECK.due("the others", Check.run(log, "leave 1;merge 1;fork 0;drop 1;"), 4);
    CHECK.due("branches", log.count(8), 1);
    CHECK.due("readers", log.count(9), 1);
    CHECK.due("merged", log.entry(0, 2, 3), 99);
  }

  private static void stops() {
    PromiseLog log = new PromiseLog();
    CHECK.due("until one is refused", Check.run(log, "join 0;drop 0;join 0;"), 1);
    CHECK.due("the refusal counts", log.account(6), 1);
    CHECK.due("no error", log.errorCode(), 0);
    CHECK.due("no error position", log.errorPosition(), -1);
    CHECK.due("readers", log.count(9), 1);
    String[] throwing = {"append 1 0 1 0", "join 3", "read 1 1", "promise 1 1", "move 1 0", "move 0 2", "leave 5",
      "fork 1", "merge 2", "drop 3", "promise 0 21"};
    for (String command : throwing) {
      int acts = log.account(0);
      CHECK.due(command, Check.run(log, "ticks 1;" + command + ";ticks 1;"), 1);
      CHECK.due(command + ": errorCode()", log.errorCode(), 0);
      CHECK.due(command + ": errorPosition()", log.errorPosition(), -1);
      CHECK.due(command + ": account(0)", log.account(0), acts + 1);
    }
    CHECK.due("the first of all", Check.run(log, "leave 3;"), 0);
    log.set(5, 60);
    CHECK.due("LONGEST then", Check.run(log, "promise 0 60;"), 1);
    CHECK.due("refused with 4", Check.run(log, "promise 0 60;"), 0);
    CHECK.due("account(4)", log.account(4), 1);
    CHECK.due("refused with 10", Check.run(log, "read 0 1;"), 0);
    CHECK.due("refused with 5", Check.run(log, "move 0 0;"), 0);
    CHECK.due("refused with 6", Check.run(log, "merge 0;"), 0);
  }

  private static void tokens() {
    String[] right = {"join0;", "join0end;", " \n join\n0 \n end \n ; \n ", "append0 0 1 0;", "append 0 0 1-5;",
      "append 0 0 1 - 5;", "append 0 0 1 -\n5;", "append 0 0 1 -0;", "append 0 00 0001 -0000099;",
      "ticks 00000000000000000000000000000000000000001;", "join 0;join 0 end;"};
    for (String text : right) {
      PromiseLog log = new PromiseLog();
      int due = text.length() - text.replace(";", "").length();
      CHECK.due("'" + text + "'", Check.run(log, text), due);
      CHECK.due("'" + text + "': errorCode()", log.errorCode(), 0);
    }
    PromiseLog log = new PromiseLog();
    Check.run(log, "append 0 0 1-5;append 0 1 2 -\n 07;");
    CHECK.due("value with a minus sign", log.entry(0, 0, 3), -5);
    CHECK.due("value with a minus sign apart", log.entry(0, 1, 3), -7);
  }

  private static void error(String text, int code, int position) {
    PromiseLog log = new PromiseLog();
    CHECK.due("'" + text + "'", Check.run(log, text), -1);
    CHECK.due("'" + text + "': errorCode()", log.errorCode(), code);
    CHECK.due("'" + text + "': errorPosition()", log.errorPosition(), position);
    CHECK.due("'" + text + "': nothing is done", log.account(0), 0);
    CHECK.due("'" + text + "': the buffer is empty", log.truncateText(0), 0);
    CHECK.dueArgument("'" + text + "': the buffer is empty", () -> log.truncateText(1));
  }

  private static void notAllowed() {
    error("ticks 1; foo 1;", 1, 9);
    error("Join 0;", 1, 0);
    error("joins 0;", 1, 0);
    error("joi 0;", 1, 0);
    error("joinz 0;", 1, 0);
    error("joina 0;", 1, 0);
    error("zoin 0;", 1, 0);
    error("join 0 {;", 1, 7);
    error("join 0 `;", 1, 7);
    error("join 0 :;", 1, 7);
    error("join 0 /;", 1, 7);
    error("end;", 1, 0);
    error("0;", 1, 0);
    error(";", 1, 0);
    error("ticks 1;;", 1, 8);
    error("-", 1, 0);
    error("join end;", 1, 5);
    error("join -1;", 1, 5);
    error("join 0 en;", 1, 7);
    error("join 0 ends;", 1, 7);
    error("join 0 end end;", 1, 11);
    error("join 0 0;", 1, 7);
    error("read 0 1 end;", 1, 9);
    error("append 0 0 1 --5;", 1, 14);
    error("append 0 0 1 5-;", 1, 14);
    error("append 0 0 -1 5;", 1, 11);
    error("append 0 0 1;", 1, 12);
    error("leave 0 0;", 1, 8);
    error("join 0\t;", 1, 6);
    error("join 0,", 1, 6);
    error("  #", 1, 2);
    error("ticks 1; ticks 1 ticks", 1, 17);
  }

  private static void outOfRange() {
    error("join 4;", 2, 5);
    error("append 4 10 0 100;", 2, 7);
    error("append 0 10 0 100;", 2, 9);
    error("append 0 9 0 100;", 2, 11);
    error("append 0 9 10 100;", 2, 11);
    error("append 0 9 9 100;", 2, 13);
    error("append 0 9 9 -100;", 2, 14);
    error("append 0 9 9 - 100;", 2, 15);
    error("read 6 1;", 2, 5);
    error("read 5 0;", 2, 7);
    error("read 5 100;", 2, 7);
    error("promise 6 1;", 2, 8);
    error("promise 0 0;", 2, 10);
    error("promise 0 61;", 2, 10);
    error("move 6 0;", 2, 5);
    error("move 0 4;", 2, 7);
    error("leave 6;", 2, 6);
    error("fork 4;", 2, 5);
    error("merge 4;", 2, 6);
    error("drop 4;", 2, 5);
    error("ticks 0;", 2, 6);
    error("ticks 100;", 2, 6);
    error("ticks 4294967297;", 2, 6);
    error("ticks 18446744073709551617#", 2, 6);
    error("fork 4#", 2, 5);
    String[] edges = {"append 3 9 9 99;", "read 5 99;", "promise 5 60;", "move 5 3;", "leave 5;", "fork 3;",
      "merge 3;", "drop 3;", "join 3 end;"};
    for (String text : edges) {
      PromiseLog log = new PromiseLog();
      CHECK.due("'" + text + "'", Check.run(log, text), 0);
      CHECK.due("'" + text + "': errorCode()", log.errorCode(), 0);
    }
    CHECK.due("ticks 99", Check.run(new PromiseLog(), "ticks 99;"), 1);
  }

  private static void tooEarly() {
    error("join", 1, 4);
    error("join 0", 1, 6);
    error("join 0 end", 1, 10);
    error("join 0 end \n ", 1, 13);
    error("append 0 0 1 -", 1, 14);
    error("append 0 0 1 5", 1, 14);
    error("append 0 ", 1, 9);
    error("ticks 1; leave 0", 1, 16);
  }

  private static void manyCommands() {
    String sixty = "ticks 1;".repeat(60);
    CHECK.due("60 commands", Check.run(new PromiseLog(), sixty + "\n "), 60);
    error(sixty + " leave 0;", 3, 481);
    error(sixty + " leave", 3, 481);
    error(sixty + "foo", 1, 480);
    error(sixty + ";", 1, 480);
    error(sixty + "#", 1, 480);
    error("ticks 1;".repeat(59) + "ticks 0;leave 0;", 2, 478);
  }

  private static void latestError() {
    PromiseLog log = new PromiseLog();
    log.append(0, 0, 1, 0);
    log.save(0);
    Check.run(log, "fork 9;");
    log.undo();
    CHECK.due("an undo leaves the latest error", log.errorCode(), 2);
    log.restore(0);
    CHECK.due("a restore leaves the latest error", log.errorPosition(), 5);
    Check.run(log, "x");
    CHECK.due("the latest error", log.errorCode(), 1);
    CHECK.due("a right text", log.runScript(), 0);
    CHECK.due("no error then", log.errorCode(), 0);
    CHECK.due("no position then", log.errorPosition(), -1);
    log.appendText(0x20202020);
    log.pass(1);
    log.undo();
    log.restore(0);
    CHECK.due("undo and restore leave the text", log.truncateText(4), 4);
  }
}
