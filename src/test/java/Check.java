/** What all tests share: a count of wrong answers, and the two ways to ask for one. */
final class Check {
  private int wrong;

  void due(String call, long got, long want) {
    if (got != want) {
      say(call + " answered " + got + ", due is " + want);
    }
  }

  void dueReal(String call, double got, double want) {
    if (got != want) {
      say(call + " answered " + got + ", due is " + want);
    }
  }

  /** The exception must be of this very class: a class below it would be one that the machine throws. */
  void dueThrow(String call, Class<? extends RuntimeException> kind, Runnable run) {
    try {
      run.run();
    } catch (RuntimeException e) {
      if (e.getClass() != kind) {
        say(call + " threw " + e + ", due is " + kind.getName());
      }
      return;
    }
    say(call + " threw nothing, due is " + kind.getName());
  }

  void dueIndex(String call, Runnable run) {
    dueThrow(call, IndexOutOfBoundsException.class, run);
  }

  void dueArgument(String call, Runnable run) {
    dueThrow(call, IllegalArgumentException.class, run);
  }

  void dueState(String call, Runnable run) {
    dueThrow(call, IllegalStateException.class, run);
  }

  void say(String text) {
    wrong++;
    if (wrong <= 40) {
      System.out.println(text);
    }
  }

  boolean isRight() {
    return wrong == 0;
  }

  void end() {
    if (wrong != 0) {
      System.out.println(wrong + " wrong");
      System.exit(1);
    }
  }

  /** Puts a text into the buffer, of any length. */
  static void load(PromiseLog log, String text) {
    log.truncateText(0);
    for (int at = 0; at < text.length(); at += 4) {
      int four = 0;
      for (int i = at; i < at + 4; i++) {
        four = four << 8 | (i < text.length() ? text.charAt(i) : ' ') & 255;
      }
      log.appendText(four);
    }
    log.truncateText(text.length());
  }

  static int run(PromiseLog log, String text) {
    load(log, text);
    return log.runScript();
  }

  static String output(PromiseLog log) {
    StringBuilder text = new StringBuilder();
    for (int index = 0; log.output(index) != PromiseLog.NONE; index++) {
      text.append((char) log.output(index));
    }
    return text.toString();
  }
}
