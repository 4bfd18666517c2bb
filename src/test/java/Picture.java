import java.util.LinkedHashMap;
import java.util.Map;

/** All that can be seen of a log, part by part, so that a test can say which part a call may change. */
final class Picture {
  static final String KEPT = "what an undo brings back";
  static final String SETTINGS = "settings";
  static final String UNDOABLE = "acts that can be undone";
  static final String ACCOUNTS = "accounts";
  static final String DELIVERY = "delivery";
  static final String OUTPUT = "output";
  static final String ERROR = "latest error";
  static final String TEXT = "text buffer";

  private Picture() {}

  /** The length of the text can't be asked for, so the caller says what it should be. */
  static Map<String, String> whole(PromiseLog log, int textLength) {
    Map<String, String> parts = new LinkedHashMap<>();
    parts.put(KEPT, kept(log));
    parts.put(SETTINGS, counts(log, 0, 6));
    parts.put(UNDOABLE, counts(log, 16, 16));
    parts.put(ACCOUNTS, accounts(log));
    parts.put(DELIVERY, delivery(log));
    parts.put(OUTPUT, Check.output(log));
    parts.put(ERROR, log.errorCode() + " at " + log.errorPosition());
    parts.put(TEXT, hasLength(log, textLength) ? "as long as it should be" : "not as long as it should be");
    return parts;
  }

  /** Everything that an undo and a restore bring back. */
  static String kept(PromiseLog log) {
    StringBuilder text = new StringBuilder(counts(log, 7, 15));
    for (int branch = 0; branch < 4; branch++) {
      addBranch(text, log, branch);
    }
    for (int reader = 0; reader < 6; reader++) {
      addReader(text, log, reader);
    }
    return text.toString();
  }

  private static String counts(PromiseLog log, int from, int to) {
    StringBuilder text = new StringBuilder();
    for (int what = from; what <= to; what++) {
      text.append(log.count(what)).append(' ');
    }
    return text.toString();
  }

  private static String accounts(PromiseLog log) {
    StringBuilder text = new StringBuilder();
    for (int what = 0; what <= 10; what++) {
      text.append(log.account(what)).append(' ');
    }
    return text.toString();
  }

  private static void addBranch(StringBuilder text, PromiseLog log, int branch) {
    int end;
    try {
      end = log.branch(branch, 1);
    } catch (IndexOutOfBoundsException e) {
      return;
    }
    text.append("\nbranch ").append(branch);
    for (int what = 0; what < 8; what++) {
      text.append(' ').append(log.branch(branch, what));
    }
    for (int at = log.branch(branch, 0); at < end; at++) {
      for (int what = 0; what < 5; what++) {
        text.append(what == 0 ? " | " : " ").append(log.entry(branch, at, what));
      }
    }
  }

  private static void addReader(StringBuilder text, PromiseLog log, int reader) {
    try {
      log.reader(reader, 0);
    } catch (IndexOutOfBoundsException e) {
      return;
    }
    text.append("\nreader ").append(reader);
    for (int what = 0; what <= 10; what++) {
      // Whether it is covered follows from PATIENCE, too, which no undo brings back.
      text.append(' ').append(what == 6 ? 0 : log.reader(reader, what));
    }
    for (int what = 0; what < 7; what++) {
      text.append(' ').append(log.debt(reader, what));
    }
    for (int key = 0; key < 10; key++) {
      text.append(' ').append(log.debtOf(reader, key));
    }
  }

  private static String delivery(PromiseLog log) {
    StringBuilder text = new StringBuilder();
    for (int item = 0; item < log.count(17); item++) {
      for (int what = 0; what < 8; what++) {
        text.append(log.item(item, what)).append(' ');
      }
      text.append('|');
    }
    return text.toString();
  }

  private static boolean hasLength(PromiseLog log, int length) {
    try {
      log.truncateText(length + 1);
      return false;
    } catch (IllegalArgumentException e) {
      // The text is not longer: now it must not be shorter either.
    }
    try {
      return log.truncateText(length) == length;
    } catch (IllegalArgumentException e) {
      return false;
    }
  }
}
