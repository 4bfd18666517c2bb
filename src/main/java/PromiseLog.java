/** A shared log that is cut behind its slowest readers. The document tells what each method promises. */
public final class PromiseLog {
  public static final int NONE = -1;
  public static final int VOID = -1000;

  private static final int BRANCHES = 4;
  private static final int READERS = 6;
  private static final int KEYS = 10;
  private static final int CAUSES = 4;
  private static final int SLOTS = 2;
  private static final int MOST_ITEMS = 99;
  private static final int MOST_TICKS = 99;
  private static final int MOST_UNDONE = 8;
  // Each entry costs a call at least, so a branch can't outgrow this within the 512 calls.
  private static final int ROOM = 512;
  private static final int FAR = 1 << 30;

  private static final int SOFT = 0;
  private static final int HARD = 1;
  private static final int AGE = 2;
  private static final int PATIENCE = 3;
  private static final int STRIKES = 4;
  private static final int LONGEST = 5;
  private static final int SWEEP = 6;

  private static final int ALL_READERS = 1;
  private static final int ALL_BRANCHES = 2;
  private static final int TOO_MANY_BROKEN = 3;
  private static final int PROMISED_ALREADY = 4;
  private static final int NO_WAY = 5;
  private static final int IS_ROOT = 6;
  private static final int HAS_CHILD = 7;
  private static final int HAS_READER = 8;
  private static final int READER_AHEAD = 9;
  private static final int NOTHING_TO_READ = 10;

  private static final Verb[] VERBS = Verb.values();

  private final Rules rules = new Rules();
  private final State now = new State();
  private final State trial = new State();
  private final State[] saved = new State[SLOTS];
  private final Acts acts = new Acts();
  private final Delivery delivery = new Delivery();
  private final Script script = new Script();
  private final StringBuilder page = new StringBuilder();

  public PromiseLog() {
    now.begin();
  }

  // ---- scripts

  public int appendText(int fourBytes) throws IllegalStateException {
    if (!script.hasRoomForFour()) {
      throw new IllegalStateException();
    }
    return script.addFour(fourBytes);
  }

  public int truncateText(int length) throws IllegalArgumentException {
    needRange(length, 0, script.length);
    script.length = length;
    return length;
  }

  public int runScript() {
    boolean isRight = script.parse();
    script.length = 0;
    if (!isRight) {
      return NONE;
    }
    int done = 0;
    while (done < script.commands && perform(done) >= 0) {
      done++;
    }
    return done;
  }

  public int errorCode() {
    return script.errorCode;
  }

  public int errorPosition() {
    return script.errorPosition;
  }

  // ---- settings and numbers

  public int set(int what, int value) throws IllegalArgumentException {
    needRange(what, SOFT, SWEEP);
    needRange(value, rules.leastOf(what), rules.mostOf(what));
    int previous = rules.valueOf(what);
    rules.change(what, value);
    return previous;
  }

  public int count(int what) throws IllegalArgumentException {
    needRange(what, 0, 17);
    if (what <= SWEEP) {
      return rules.valueOf(what);
    }
    if (what >= 12 && what <= 15) {
      return now.cutsWith(what - 12);
    }
    switch (what) {
      case 7: return now.time;
      case 8: return now.branchCount();
      case 9: return now.readerCount();
      case 10: return now.entryCount();
      case 11: return now.appended;
      case 16: return acts.undoable;
      default: return delivery.itemCount();
    }
  }

  public int branch(int branch, int what) throws IndexOutOfBoundsException, IllegalArgumentException {
    Branch asked = needBranch(branch);
    needRange(what, 0, 7);
    switch (what) {
      case 0: return asked.first;
      case 1: return asked.end;
      case 2: return asked.total;
      case 3: return asked.parent;
      case 4: return asked.fork;
      case 5: return now.readersIn(asked);
      case 6: return now.childrenOf(asked);
      default: return asked.cuts;
    }
  }

  public int entry(int branch, int position, int what)
      throws IndexOutOfBoundsException, IllegalArgumentException {
    Branch home = needBranch(branch);
    Entry asked = home.at(position);
    if (asked == null) {
      throw new IndexOutOfBoundsException();
    }
    needRange(what, 0, 4);
    switch (what) {
      case 0: return asked.time;
      case 1: return asked.key;
      case 2: return asked.size;
      case 3: return asked.value;
      default: return now.readersNotBehind(home, position);
    }
  }

  public int reader(int reader, int what) throws IndexOutOfBoundsException, IllegalArgumentException {
    Reader asked = needReader(reader);
    needRange(what, 0, 10);
    Branch home = now.homeOf(asked);
    switch (what) {
      case 0: return asked.branch;
      case 1: return asked.place;
      case 2: return asked.seen;
      case 3: return asked.promise;
      case 4: return asked.kept;
      case 5: return asked.broken;
      case 6: return asked.isCovered(now.time, rules.valueOf(PATIENCE)) ? 1 : 0;
      case 7: return home.end - asked.place;
      case 8: return home.sizesFrom(asked.place);
      case 9: return asked.entriesRead;
      default: return asked.summariesRead;
    }
  }

  public int debt(int reader, int what) throws IndexOutOfBoundsException, IllegalArgumentException {
    Reader asked = needReader(reader);
    needRange(what, 0, 6);
    return asked.debt.numberOf(what);
  }

  public int debtOf(int reader, int key) throws IndexOutOfBoundsException, IllegalArgumentException {
    Reader asked = needReader(reader);
    needRange(key, 0, KEYS - 1);
    return asked.debt.latestWith(key);
  }

  public int item(int item, int what) throws IndexOutOfBoundsException, IllegalArgumentException {
    if (item < 0 || item >= delivery.itemCount()) {
      throw new IndexOutOfBoundsException();
    }
    needRange(what, 0, 7);
    return delivery.numberOf(item, what);
  }

  public int account(int what) throws IllegalArgumentException {
    needRange(what, 0, NOTHING_TO_READ);
    return acts.accountOf(what);
  }

  // ---- acts

  public int append(int branch, int key, int size, int value)
      throws IndexOutOfBoundsException, IllegalArgumentException {
    Branch target = needBranch(branch);
    needRange(key, 0, KEYS - 1);
    needRange(size, 1, 9);
    needRange(value, -99, 99);
    acts.begin(now);
    int position = target.end;
    target.add(new Entry(now.time, key, size, value));
    now.appended++;
    now.cutBehind(target, rules);
    return position;
  }

  public int join(int branch, boolean isEnd) throws IndexOutOfBoundsException {
    Branch home = needBranch(branch);
    int number = now.freeReader();
    if (number == NONE) {
      return acts.refuse(ALL_READERS);
    }
    acts.begin(now);
    now.seat(number, home, isEnd ? home.end : home.first);
    return number;
  }

  public int leave(int reader) throws IndexOutOfBoundsException {
    Reader gone = needReader(reader);
    acts.begin(now);
    gone.isThere = false;
    return now.readerCount();
  }

  public int read(int reader, int items) throws IndexOutOfBoundsException, IllegalArgumentException {
    Reader asked = needReader(reader);
    needRange(items, 1, MOST_ITEMS);
    Branch home = now.homeOf(asked);
    if (asked.debt.entries == 0 && asked.place >= home.end) {
      return acts.refuse(NOTHING_TO_READ);
    }
    acts.begin(now);
    delivery.take(asked, home, items);
    asked.comeBack(now.time);
    return delivery.itemCount();
  }

  public int promise(int reader, int ticks) throws IndexOutOfBoundsException, IllegalArgumentException {
    Reader asked = needReader(reader);
    needRange(ticks, 1, rules.valueOf(LONGEST));
    if (asked.broken >= rules.valueOf(STRIKES)) {
      return acts.refuse(TOO_MANY_BROKEN);
    }
    if (asked.promise != NONE) {
      return acts.refuse(PROMISED_ALREADY);
    }
    acts.begin(now);
    asked.promise = now.time + ticks;
    return asked.promise;
  }

  public int move(int reader, int branch) throws IndexOutOfBoundsException {
    Reader asked = needReader(reader);
    Branch goal = needBranch(branch);
    Branch home = now.homeOf(asked);
    if (home == goal || asked.place > now.alikeUpTo(home, goal) || asked.place < goal.first) {
      return acts.refuse(NO_WAY);
    }
    acts.begin(now);
    asked.branch = goal.number;
    asked.seen = now.time;
    return asked.place;
  }

  public int fork(int branch) throws IndexOutOfBoundsException {
    Branch parent = needBranch(branch);
    Branch child = now.freeBranch();
    if (child == null) {
      return acts.refuse(ALL_BRANCHES);
    }
    acts.begin(now);
    child.beginAs(parent);
    return child.number;
  }

  public int merge(int branch) throws IndexOutOfBoundsException {
    Branch child = needBranch(branch);
    int reason = reasonToStay(child);
    if (reason == NONE && now.readersNotBehind(child, child.fork - 1) > 0) {
      reason = READER_AHEAD;
    }
    if (reason != NONE) {
      return acts.refuse(reason);
    }
    acts.begin(now);
    return now.mergeUp(child, rules);
  }

  public int drop(int branch) throws IndexOutOfBoundsException {
    Branch gone = needBranch(branch);
    int reason = reasonToStay(gone);
    if (reason == NONE && now.readersIn(gone) > 0) {
      reason = HAS_READER;
    }
    if (reason != NONE) {
      return acts.refuse(reason);
    }
    acts.begin(now);
    gone.isThere = false;
    return gone.end - gone.first;
  }

  public int pass(int ticks) throws IllegalArgumentException {
    needRange(ticks, 1, MOST_TICKS);
    acts.begin(now);
    int cut = 0;
    for (int done = 0; done < ticks; done++) {
      cut += now.tick(rules);
    }
    return cut;
  }

  // ---- what follows

  public int common(int one, int other) throws IndexOutOfBoundsException {
    Branch left = needBranch(one);
    Branch right = needBranch(other);
    return now.alikeUpTo(left, right);
  }

  public int holder(int branch) throws IndexOutOfBoundsException {
    return now.holderOf(needBranch(branch), rules);
  }

  public int slowest(int branch) throws IndexOutOfBoundsException {
    return now.slowestIn(needBranch(branch));
  }

  public int cause(int branch) throws IndexOutOfBoundsException {
    return now.causeFor(needBranch(branch), rules);
  }

  public int latest(int branch, int key) throws IndexOutOfBoundsException, IllegalArgumentException {
    Branch asked = needBranch(branch);
    needRange(key, 0, KEYS - 1);
    return asked.latestWith(key);
  }

  public double mean(int branch) throws IndexOutOfBoundsException {
    Branch asked = needBranch(branch);
    int number = asked.end - asked.first;
    if (number <= 0) {
      return 0.0;
    }
    return (double) asked.valueSum() / (double) number;
  }

  public float trust(int reader) throws IndexOutOfBoundsException {
    Reader asked = needReader(reader);
    int all = asked.kept + asked.broken;
    if (all <= 0) {
      return 1;
    }
    return (float) asked.kept / (float) all;
  }

  public int ahead(int ticks, int what) throws IllegalArgumentException {
    needRange(ticks, 1, MOST_TICKS);
    needRange(what, 0, 3);
    trial.copyFrom(now);
    int cut = 0;
    for (int done = 0; done < ticks; done++) {
      cut += trial.tick(rules);
    }
    switch (what) {
      case 0: return cut;
      case 1: return trial.brokenCount() - now.brokenCount();
      case 2: return trial.debtCount() - now.debtCount();
      default: return trial.greatestTotal();
    }
  }

  public int losesIn(int reader, int most) throws IndexOutOfBoundsException, IllegalArgumentException {
    Reader asked = needReader(reader);
    needRange(most, 1, 200);
    trial.copyFrom(now);
    for (int ticks = 1; ticks <= most; ticks++) {
      trial.tick(rules);
      if (trial.owedTo(reader) != asked.debt.entries) {
        return ticks;
      }
    }
    return NONE;
  }

  public int wouldCut(int branch, int size) throws IndexOutOfBoundsException, IllegalArgumentException {
    needBranch(branch);
    needRange(size, 1, 9);
    trial.copyFrom(now);
    Branch target = trial.branchAt(branch);
    if (target == null) {
      return 0;
    }
    target.add(new Entry(now.time, 0, size, 0));
    return trial.cutBehind(target, rules);
  }

  public int unread(int reader, int key) throws IndexOutOfBoundsException, IllegalArgumentException {
    Reader asked = needReader(reader);
    needRange(key, 0, KEYS - 1);
    return now.homeOf(asked).countFrom(asked.place, key);
  }

  public int promised(int index) throws IndexOutOfBoundsException {
    if (index < 0) {
      throw new IndexOutOfBoundsException();
    }
    return now.promisedAt(index);
  }

  public int age(int branch) throws IndexOutOfBoundsException {
    Branch asked = needBranch(branch);
    Entry oldest = asked.at(asked.first);
    return oldest == null ? NONE : now.time - oldest.time;
  }

  // ---- output

  public int write(int branch) throws IndexOutOfBoundsException {
    Branch asked = needBranch(branch);
    page.setLength(0);
    page.append(branch);
    page.append(':');
    page.append(asked.first);
    page.append('-');
    page.append(asked.end);
    for (int number = 0; number < READERS; number++) {
      Reader reader = now.readerAt(number);
      if (reader != null && reader.isIn(asked)) {
        writeReader(number, reader);
      }
    }
    return page.length();
  }

  public int output(int index) {
    return index >= 0 && index < page.length() ? page.charAt(index) : NONE;
  }

  // ---- undo, saved states

  public int undo() {
    return acts.takeBack(now);
  }

  public void save(int slot) throws IllegalArgumentException {
    needRange(slot, 0, SLOTS - 1);
    State row = saved[slot];
    if (row == null) {
      row = new State();
      saved[slot] = row;
    }
    row.copyFrom(now);
  }

  public void restore(int slot) throws IllegalArgumentException, IllegalStateException {
    needRange(slot, 0, SLOTS - 1);
    State row = saved[slot];
    if (row == null) {
      throw new IllegalStateException();
    }
    now.copyFrom(row);
    acts.undoable = 0;
  }

  // ---- help for the methods above

  private static void needRange(int value, int least, int most) {
    if (value < least || value > most) {
      throw new IllegalArgumentException();
    }
  }

  private Branch needBranch(int number) {
    Branch found = now.branchAt(number);
    if (found == null) {
      throw new IndexOutOfBoundsException();
    }
    return found;
  }

  private Reader needReader(int number) {
    Reader found = now.readerAt(number);
    if (found == null) {
      throw new IndexOutOfBoundsException();
    }
    return found;
  }

  /** The reason for which a branch can be neither merged nor dropped. */
  private int reasonToStay(Branch branch) {
    if (branch.number == 0) {
      return IS_ROOT;
    }
    return now.childrenOf(branch) > 0 ? HAS_CHILD : NONE;
  }

  private void writeReader(int number, Reader reader) {
    page.append(' ');
    page.append('r');
    page.append(number);
    page.append('=');
    page.append(reader.place);
    if (reader.promise != NONE) {
      page.append('p');
      page.append(reader.promise);
    }
    if (reader.debt.entries > 0) {
      page.append('!');
    }
  }

  /** Does a command of the script; a negative answer if it is refused, or if its method would throw. */
  private int perform(int command) {
    Verb verb = script.verbOf(command);
    if (verb == null) {
      return NONE;
    }
    int one = script.operandOf(command, 0);
    int two = script.operandOf(command, 1);
    boolean isBranch = now.branchAt(one) != null;
    boolean isReader = now.readerAt(one) != null;
    switch (verb) {
      case APPEND:
        return isBranch ? append(one, two, script.operandOf(command, 2), script.operandOf(command, 3)) : NONE;
      case JOIN: return isBranch ? join(one, two != 0) : NONE;
      case READ: return isReader ? read(one, two) : NONE;
      case PROMISE: return isReader && two <= rules.valueOf(LONGEST) ? promise(one, two) : NONE;
      case MOVE: return isReader && now.branchAt(two) != null ? move(one, two) : NONE;
      case LEAVE: return isReader ? leave(one) : NONE;
      case FORK: return isBranch ? fork(one) : NONE;
      case MERGE: return isBranch ? merge(one) : NONE;
      case DROP: return isBranch ? drop(one) : NONE;
      default: return pass(one);
    }
  }

  /** The settings. */
  private static final class Rules {
    private static final int[] LEAST = {1, 1, 0, 0, 1, 1, 0};
    private static final int[] MOST = {400, 900, 500, 99, 9, 60, 1};

    final int[] values = {60, 120, 0, 5, 2, 20, 0};

    int leastOf(int what) {
      return what >= 0 && what < LEAST.length ? LEAST[what] : 0;
    }

    int mostOf(int what) {
      return what >= 0 && what < MOST.length ? MOST[what] : 0;
    }

    int valueOf(int what) {
      return what >= 0 && what < values.length ? values[what] : 0;
    }

    void change(int what, int value) {
      if (what >= 0 && what < values.length) {
        values[what] = value;
      }
    }
  }

  /** An entry never changes, so that branches, copies and deliveries share it. */
  private static final class Entry {
    final int time;
    final int key;
    final int size;
    final int value;

    Entry(int time, int key, int size, int value) {
      this.time = time;
      this.key = key;
      this.size = size;
      this.value = value;
    }
  }

  /** What was cut ahead of a reader, in the order of the cuts. */
  private static final class Debt {
    int entries;
    int sizes;
    int values;
    int least = VOID;
    int greatest = VOID;
    int first = NONE;
    int last = NONE;
    final int[] latest = new int[KEYS];

    Debt() {
      for (int key = 0; key < latest.length; key++) {
        latest[key] = VOID;
      }
    }

    void clear() {
      entries = 0;
      sizes = 0;
      values = 0;
      least = VOID;
      greatest = VOID;
      first = NONE;
      last = NONE;
      for (int key = 0; key < latest.length; key++) {
        latest[key] = VOID;
      }
    }

    void add(Entry entry, int position) {
      boolean isFirst = entries == 0;
      least = isFirst || entry.value < least ? entry.value : least;
      greatest = isFirst || entry.value > greatest ? entry.value : greatest;
      first = isFirst ? position : first;
      last = position;
      entries++;
      sizes += entry.size;
      values += entry.value;
      if (entry.key >= 0 && entry.key < latest.length) {
        latest[entry.key] = entry.value;
      }
    }

    int numberOf(int what) {
      switch (what) {
        case 0: return entries;
        case 1: return sizes;
        case 2: return values;
        case 3: return least;
        case 4: return greatest;
        case 5: return first;
        default: return last;
      }
    }

    int latestWith(int key) {
      return key >= 0 && key < latest.length ? latest[key] : VOID;
    }

    void copyFrom(Debt other) {
      entries = other.entries;
      sizes = other.sizes;
      values = other.values;
      least = other.least;
      greatest = other.greatest;
      first = other.first;
      last = other.last;
      System.arraycopy(other.latest, 0, latest, 0, KEYS);
    }
  }

  private static final class Reader {
    boolean isThere;
    int branch;
    int place;
    int seen;
    int promise = NONE;
    int kept;
    int broken;
    int entriesRead;
    int summariesRead;
    final Debt debt = new Debt();

    void begin(int branch, int place, int time) {
      isThere = true;
      this.branch = branch;
      this.place = place;
      seen = time;
      promise = NONE;
      kept = 0;
      broken = 0;
      entriesRead = 0;
      summariesRead = 0;
      debt.clear();
    }

    boolean isIn(Branch home) {
      return isThere && branch == home.number;
    }

    boolean hasPromise() {
      return isThere && promise != NONE;
    }

    boolean isCovered(int time, int patience) {
      return promise != NONE || time - seen <= patience;
    }

    void comeBack(int time) {
      seen = time;
      if (promise != NONE) {
        promise = NONE;
        kept++;
      }
    }

    void breakPromiseAt(int time) {
      if (hasPromise() && promise < time) {
        promise = NONE;
        broken++;
      }
    }

    void copyFrom(Reader other) {
      isThere = other.isThere;
      branch = other.branch;
      place = other.place;
      seen = other.seen;
      promise = other.promise;
      kept = other.kept;
      broken = other.broken;
      entriesRead = other.entriesRead;
      summariesRead = other.summariesRead;
      if (isThere) {
        debt.copyFrom(other.debt);
      }
    }
  }

  private static final class Branch {
    final int number;
    boolean isThere;
    int parent = NONE;
    int fork = NONE;
    int first;
    int end;
    int total;
    int cuts;
    final Entry[] entries = new Entry[ROOM];

    Branch(int number) {
      this.number = number;
    }

    void beginAs(Branch other) {
      copyFrom(other);
      parent = other.number;
      fork = other.end;
      cuts = 0;
    }

    /** The entry at a position, null where the branch has none. */
    Entry at(int position) {
      boolean isHere = position >= first && position < end;
      return isHere && position >= 0 && position < entries.length ? entries[position] : null;
    }

    void add(Entry entry) {
      if (entry != null && end >= 0 && end < entries.length) {
        entries[end] = entry;
        end++;
        total += entry.size;
      }
    }

    void cutFirst(Entry entry) {
      total -= entry.size;
      first++;
      cuts++;
    }

    int sizesFrom(int place) {
      int sum = 0;
      for (int position = place; position < end; position++) {
        Entry entry = at(position);
        sum += entry == null ? 0 : entry.size;
      }
      return sum;
    }

    int valueSum() {
      int sum = 0;
      for (int position = first; position < end; position++) {
        Entry entry = at(position);
        sum += entry == null ? 0 : entry.value;
      }
      return sum;
    }

    int countFrom(int place, int key) {
      int found = 0;
      for (int position = place; position < end; position++) {
        Entry entry = at(position);
        found += entry != null && entry.key == key ? 1 : 0;
      }
      return found;
    }

    int latestWith(int key) {
      for (int position = end - 1; position >= first; position--) {
        Entry entry = at(position);
        if (entry != null && entry.key == key) {
          return entry.value;
        }
      }
      return VOID;
    }

    void copyFrom(Branch other) {
      isThere = other.isThere;
      parent = other.parent;
      fork = other.fork;
      first = other.first;
      end = other.end;
      total = other.total;
      cuts = other.cuts;
      if (isThere && first >= 0 && first < end && end <= ROOM) {
        System.arraycopy(other.entries, first, entries, first, end - first);
      }
    }
  }

  /** What an undo or a restore brings back: time, branches, readers and what was counted of them. */
  private static final class State {
    int time;
    int appended;
    final int[] cuts = new int[CAUSES];
    final Branch[] branches = new Branch[BRANCHES];
    final Reader[] readers = new Reader[READERS];

    State() {
      for (int number = 0; number < branches.length; number++) {
        branches[number] = new Branch(number);
      }
      for (int number = 0; number < readers.length; number++) {
        readers[number] = new Reader();
      }
    }

    void begin() {
      branches[0].isThere = true;
    }

    void copyFrom(State other) {
      time = other.time;
      appended = other.appended;
      System.arraycopy(other.cuts, 0, cuts, 0, CAUSES);
      for (int number = 0; number < BRANCHES; number++) {
        branches[number].copyFrom(other.branches[number]);
      }
      for (int number = 0; number < READERS; number++) {
        readers[number].copyFrom(other.readers[number]);
      }
    }

    // -- branches and readers

    /** The branch with a number, null if there is none. */
    Branch branchAt(int number) {
      boolean isNumber = number >= 0 && number < branches.length;
      return isNumber && branches[number].isThere ? branches[number] : null;
    }

    /** The reader with a number, null if there is none. */
    Reader readerAt(int number) {
      boolean isNumber = number >= 0 && number < readers.length;
      return isNumber && readers[number].isThere ? readers[number] : null;
    }

    Branch homeOf(Reader reader) {
      int number = reader.branch;
      return branches[number >= 0 && number < branches.length ? number : 0];
    }

    Branch parentOf(Branch branch) {
      int number = branch.parent;
      return branches[number >= 0 && number < branches.length ? number : 0];
    }

    Branch freeBranch() {
      for (Branch branch : branches) {
        if (!branch.isThere) {
          return branch;
        }
      }
      return null;
    }

    int freeReader() {
      for (int number = 0; number < readers.length; number++) {
        if (!readers[number].isThere) {
          return number;
        }
      }
      return NONE;
    }

    void seat(int number, Branch home, int place) {
      if (number >= 0 && number < readers.length) {
        readers[number].begin(home.number, place, time);
      }
    }

    int branchCount() {
      int found = 0;
      for (Branch branch : branches) {
        found += branch.isThere ? 1 : 0;
      }
      return found;
    }

    int readerCount() {
      int found = 0;
      for (Reader reader : readers) {
        found += reader.isThere ? 1 : 0;
      }
      return found;
    }

    int entryCount() {
      int found = 0;
      for (Branch branch : branches) {
        found += branch.isThere ? branch.end - branch.first : 0;
      }
      return found;
    }

    int greatestTotal() {
      int greatest = 0;
      for (Branch branch : branches) {
        greatest = branch.isThere && branch.total > greatest ? branch.total : greatest;
      }
      return greatest;
    }

    int brokenCount() {
      int found = 0;
      for (Reader reader : readers) {
        found += reader.isThere ? reader.broken : 0;
      }
      return found;
    }

    int debtCount() {
      int found = 0;
      for (Reader reader : readers) {
        found += reader.isThere ? reader.debt.entries : 0;
      }
      return found;
    }

    int owedTo(int number) {
      Reader reader = readerAt(number);
      return reader == null ? 0 : reader.debt.entries;
    }

    int childrenOf(Branch parent) {
      int found = 0;
      for (Branch branch : branches) {
        found += branch.isThere && branch.parent == parent.number ? 1 : 0;
      }
      return found;
    }

    int readersIn(Branch home) {
      int found = 0;
      for (Reader reader : readers) {
        found += reader.isIn(home) ? 1 : 0;
      }
      return found;
    }

    int readersNotBehind(Branch home, int position) {
      int found = 0;
      for (Reader reader : readers) {
        found += reader.isIn(home) && reader.place <= position ? 1 : 0;
      }
      return found;
    }

    int slowestIn(Branch home) {
      int slowest = NONE;
      int least = FAR;
      for (int number = 0; number < readers.length; number++) {
        Reader reader = readers[number];
        if (reader.isIn(home) && reader.place < least) {
          slowest = number;
          least = reader.place;
        }
      }
      return slowest;
    }

    // -- promises in their order

    int promisedAt(int index) {
      for (int number = 0; number < readers.length; number++) {
        if (readers[number].hasPromise() && promisesAhead(number, readers[number].promise) == index) {
          return number;
        }
      }
      return NONE;
    }

    int promisesAhead(int number, int promise) {
      int found = 0;
      for (int other = 0; other < readers.length; other++) {
        Reader reader = readers[other];
        boolean isAhead = reader.promise < promise || reader.promise == promise && other < number;
        found += reader.hasPromise() && isAhead ? 1 : 0;
      }
      return found;
    }

    // -- where branches part

    int alikeUpTo(Branch one, Branch other) {
      if (one == other) {
        return one.end;
      }
      Branch meeting = one;
      for (int step = 0; step < BRANCHES && !isOnWay(meeting, other); step++) {
        meeting = parentOf(meeting);
      }
      return Math.min(leastFork(one, meeting), leastFork(other, meeting));
    }

    boolean isOnWay(Branch sought, Branch from) {
      Branch at = from;
      for (int step = 0; step < BRANCHES && at != sought; step++) {
        at = parentOf(at);
      }
      return at == sought;
    }

    int leastFork(Branch from, Branch meeting) {
      int least = FAR;
      Branch at = from;
      for (int step = 0; step < BRANCHES && at != meeting; step++) {
        least = Math.min(least, at.fork);
        at = parentOf(at);
      }
      return least;
    }

    // -- cuts

    /** The lowest reader that holds the first entry of a branch. */
    int holderOf(Branch branch, Rules rules) {
      if (branch.first >= branch.end) {
        return NONE;
      }
      int patience = rules.valueOf(PATIENCE);
      for (int number = 0; number < readers.length; number++) {
        Reader reader = readers[number];
        boolean isNotBehind = reader.isIn(branch) && reader.place <= branch.first;
        if (isNotBehind && reader.isCovered(time, patience)) {
          return number;
        }
      }
      return NONE;
    }

    int causeFor(Branch branch, Rules rules) {
      Entry entry = branch.at(branch.first);
      if (entry == null) {
        return NONE;
      }
      if (branch.total > rules.valueOf(HARD)) {
        return 0;
      }
      int most = rules.valueOf(AGE);
      boolean isFree = holderOf(branch, rules) == NONE;
      if (isFree && branch.total > rules.valueOf(SOFT)) {
        return 1;
      }
      if (isFree && most > 0 && time - entry.time > most) {
        return 2;
      }
      return rules.valueOf(SWEEP) == 1 && isReadByAll(branch) ? 3 : NONE;
    }

    boolean isReadByAll(Branch branch) {
      boolean hasReader = false;
      for (Reader reader : readers) {
        if (reader.isIn(branch)) {
          hasReader = true;
          if (reader.place <= branch.first) {
            return false;
          }
        }
      }
      return hasReader;
    }

    int cutsWith(int cause) {
      return cause >= 0 && cause < cuts.length ? cuts[cause] : 0;
    }

    /** Cuts a branch as the settings want it; tells how many entries were cut. */
    int cutBehind(Branch branch, Rules rules) {
      int before = branch.cuts;
      for (int left = branch.end - branch.first; left > 0; left--) {
        int cause = causeFor(branch, rules);
        if (cause < 0 || cause >= cuts.length) {
          break;
        }
        cuts[cause]++;
        cutOne(branch);
      }
      return branch.cuts - before;
    }

    void cutOne(Branch branch) {
      int position = branch.first;
      Entry entry = branch.at(position);
      if (entry == null) {
        return;
      }
      branch.cutFirst(entry);
      for (Reader reader : readers) {
        if (reader.isIn(branch) && reader.place <= position) {
          reader.debt.add(entry, position);
          reader.place = branch.first;
        }
      }
    }

    // -- time

    int tick(Rules rules) {
      time++;
      for (Reader reader : readers) {
        reader.breakPromiseAt(time);
      }
      int cut = 0;
      for (Branch branch : branches) {
        cut += branch.isThere ? cutBehind(branch, rules) : 0;
      }
      return cut;
    }

    // -- merges

    int mergeUp(Branch child, Rules rules) {
      Branch parent = parentOf(child);
      int start = Math.max(child.fork, child.first);
      int shift = parent.end - start;
      for (int position = start; position < child.end; position++) {
        parent.add(child.at(position));
      }
      for (Reader reader : readers) {
        if (reader.isIn(child)) {
          reader.branch = parent.number;
          reader.place += shift;
        }
      }
      child.isThere = false;
      cutBehind(parent, rules);
      return child.end - start;
    }
  }

  /** The accounts, and the states ahead of the latest acts, the oldest first. */
  private static final class Acts {
    final int[] accounts = new int[NOTHING_TO_READ + 1];
    final State[] before = new State[MOST_UNDONE];
    int undoable;

    int accountOf(int what) {
      return what >= 0 && what < accounts.length ? accounts[what] : 0;
    }

    int refuse(int reason) {
      if (reason >= 0 && reason < accounts.length) {
        accounts[reason]++;
      }
      return -10 - reason;
    }

    void begin(State now) {
      accounts[0]++;
      if (undoable >= before.length) {
        forgetOldest();
      }
      if (undoable < 0 || undoable >= before.length) {
        return;
      }
      State row = before[undoable];
      if (row == null) {
        row = new State();
        before[undoable] = row;
      }
      row.copyFrom(now);
      undoable++;
    }

    /** The row of the oldest act goes behind the others, where the next act takes it. */
    void forgetOldest() {
      State oldest = before[0];
      for (int index = 1; index < before.length; index++) {
        before[index - 1] = before[index];
      }
      before[before.length - 1] = oldest;
      undoable--;
    }

    int takeBack(State now) {
      if (undoable <= 0 || undoable > before.length) {
        return NONE;
      }
      undoable--;
      State row = before[undoable];
      if (row != null) {
        now.copyFrom(row);
      }
      return undoable;
    }
  }

  /** The items of the latest reading. The entries are those from one position on, one behind the other. */
  private static final class Delivery {
    boolean hasSummary;
    final Debt summary = new Debt();
    int position;
    int count;
    final Entry[] entries = new Entry[MOST_ITEMS];

    int itemCount() {
      return count + (hasSummary ? 1 : 0);
    }

    void take(Reader reader, Branch home, int items) {
      hasSummary = reader.debt.entries > 0;
      if (hasSummary) {
        summary.copyFrom(reader.debt);
        reader.debt.clear();
        reader.summariesRead++;
      }
      takeEntries(home, reader.place, hasSummary ? items - 1 : items);
      reader.place += count;
      reader.entriesRead += count;
    }

    void takeEntries(Branch home, int place, int most) {
      position = place;
      count = 0;
      for (int index = 0; index < most && index < entries.length; index++) {
        Entry entry = home.at(place + index);
        if (entry == null) {
          break;
        }
        entries[index] = entry;
        count++;
      }
    }

    int numberOf(int item, int what) {
      if (hasSummary && item == 0) {
        return what == 0 ? 1 : summary.numberOf(what - 1);
      }
      int index = hasSummary ? item - 1 : item;
      Entry entry = index >= 0 && index < entries.length ? entries[index] : null;
      if (entry == null) {
        return NONE;
      }
      switch (what) {
        case 0: return 0;
        case 1: return position + index;
        case 2: return entry.key;
        case 3: return entry.size;
        case 4: return entry.value;
        default: return NONE;
      }
    }
  }

  /** The commands of a script; of each operand one letter, which Script.mostOf() reads. */
  private enum Verb {
    APPEND("append", "bksv"),
    JOIN("join", "be"),
    READ("read", "ri"),
    PROMISE("promise", "rt"),
    MOVE("move", "rb"),
    LEAVE("leave", "r"),
    FORK("fork", "b"),
    MERGE("merge", "b"),
    DROP("drop", "b"),
    TICKS("ticks", "n");

    final String word;
    final String operands;

    Verb(String word, String operands) {
      this.word = word;
      this.operands = operands;
    }
  }

  /** The text buffer, its parser, and the commands that the parser found. */
  private static final class Script {
    private static final int MOST_BYTES = 700;
    private static final int MOST_COMMANDS = 60;
    private static final int MOST_OPERANDS = 4;
    // Far above every range, so that a longer number need not be known.
    private static final int MANY = 1000;

    private static final int BEHIND_TEXT = 0;
    private static final int WORD = 1;
    private static final int NUMBER = 2;
    private static final int MINUS = 3;
    private static final int SEMICOLON = 4;
    private static final int NO_TOKEN = 5;

    final byte[] text = new byte[MOST_BYTES];
    int length;
    final Verb[] verbs = new Verb[MOST_COMMANDS];
    final int[] operands = new int[MOST_COMMANDS * MOST_OPERANDS];
    int commands;
    int errorCode;
    int errorPosition = NONE;
    // The token that the parser looks at, from its first byte to the one behind its last.
    int kind;
    int start;
    int behind;

    boolean hasRoomForFour() {
      return length <= MOST_BYTES - 4;
    }

    int addFour(int fourBytes) {
      for (int shift = 24; shift >= 0; shift -= 8) {
        if (length >= 0 && length < text.length) {
          text[length] = (byte) (fourBytes >>> shift);
          length++;
        }
      }
      return length;
    }

    Verb verbOf(int command) {
      return command >= 0 && command < commands && command < verbs.length ? verbs[command] : null;
    }

    int operandOf(int command, int index) {
      int at = command * MOST_OPERANDS + index;
      return at >= 0 && at < operands.length ? operands[at] : 0;
    }

    boolean parse() {
      commands = 0;
      errorCode = 0;
      errorPosition = NONE;
      behind = 0;
      next();
      boolean isRight = true;
      for (int read = 0; read <= MOST_COMMANDS && isRight && kind != BEHIND_TEXT; read++) {
        isRight = parseCommand();
      }
      return isRight;
    }

    boolean parseCommand() {
      Verb verb = verbHere();
      if (verb == null) {
        return fail(1);
      }
      if (commands < 0 || commands >= verbs.length) {
        return fail(3);
      }
      verbs[commands] = verb;
      next();
      for (int index = 0; index < verb.operands.length(); index++) {
        if (!parseOperand(verb.operands.charAt(index), commands * MOST_OPERANDS + index)) {
          return false;
        }
      }
      if (kind != SEMICOLON) {
        return fail(1);
      }
      commands++;
      next();
      return true;
    }

    boolean parseOperand(char letter, int at) {
      if (letter == 'e') {
        return parseEnd(at);
      }
      boolean isMinus = letter == 'v' && kind == MINUS;
      if (isMinus) {
        next();
      }
      if (kind != NUMBER) {
        return fail(1);
      }
      int number = numberHere();
      if (number < leastOf(letter) || number > mostOf(letter)) {
        return fail(2);
      }
      keep(at, isMinus ? -number : number);
      next();
      return true;
    }

    boolean parseEnd(int at) {
      boolean isEnd = isWord("end");
      keep(at, isEnd ? 1 : 0);
      if (isEnd) {
        next();
      }
      return true;
    }

    void keep(int at, int number) {
      if (at >= 0 && at < operands.length) {
        operands[at] = number;
      }
    }

    boolean fail(int code) {
      errorCode = code;
      errorPosition = start;
      return false;
    }

    static int leastOf(char letter) {
      return letter == 's' || letter == 'i' || letter == 't' || letter == 'n' ? 1 : 0;
    }

    static int mostOf(char letter) {
      switch (letter) {
        case 'b': return 3;
        case 'r': return 5;
        case 'k': return 9;
        case 's': return 9;
        case 't': return 60;
        default: return 99;
      }
    }

    void next() {
      int at = behind;
      while (at < length && isBlank(byteAt(at))) {
        at++;
      }
      start = at;
      kind = kindOf(byteAt(at));
      behind = at < length ? at + 1 : at;
      boolean isRun = kind == WORD || kind == NUMBER;
      while (isRun && behind < length && kindOf(byteAt(behind)) == kind) {
        behind++;
      }
    }

    int byteAt(int index) {
      return index >= 0 && index < length && index < text.length ? text[index] & 255 : NONE;
    }

    static boolean isBlank(int sign) {
      return sign == 32 || sign == 10;
    }

    static int kindOf(int sign) {
      if (sign == NONE) {
        return BEHIND_TEXT;
      }
      if (sign >= 'a' && sign <= 'z') {
        return WORD;
      }
      if (sign >= '0' && sign <= '9') {
        return NUMBER;
      }
      if (sign == '-') {
        return MINUS;
      }
      return sign == ';' ? SEMICOLON : NO_TOKEN;
    }

    Verb verbHere() {
      for (Verb verb : VERBS) {
        if (isWord(verb.word)) {
          return verb;
        }
      }
      return null;
    }

    boolean isWord(String word) {
      boolean isSame = kind == WORD && behind - start == word.length();
      for (int index = 0; isSame && index < word.length(); index++) {
        isSame = byteAt(start + index) == word.charAt(index);
      }
      return isSame;
    }

    int numberHere() {
      int number = 0;
      for (int at = start; at < behind; at++) {
        number = Math.min(MANY, number * 10 + byteAt(at) - '0');
      }
      return number;
    }
  }
}
