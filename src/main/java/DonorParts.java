/** A repair cafe that strips what was given up for its parts. */
public final class DonorParts {
  public static final int NO_SUCH = -1, BAD_VALUE = -2, BAD_TEXT = -3, TOO_MANY = -4, NOT_POSSIBLE = -5, NONE = -6;

  private static final int KINDS = 6, PARTS = 8, PARTS_OF_A_THING = 3;
  private static final int MOST_THINGS = 30, MOST_FIXERS = 5;
  private static final int ALL_KINDS = 63, ALL_TESTS = 7;
  private static final int MOST_PATIENCE = 99, MOST_CARE = 9, MOST_IN_DRAWER = 99;
  private static final int MOST_FAILURES = 3, TEST_DIVISOR = 3;
  private static final int MOST_AT_ONCE = 99, MOST_MINUTES = 9999;
  private static final int MOST_WHAT_IF = 300, MOST_AHEAD = 500;
  private static final int MOST_SIGNS = 80, MOST_SIGNS_AT_ONCE = 8, LEAST_SIGN = 33, LAST_SIGN = 126;
  private static final int MOST_UNDONE = 6, SLOTS = 2;
  private static final int WAITS = 0, IN_REPAIR = 1, REPAIRED = 2, STRIPPED = 3, LEFT = 4;

  private final Cafe now = new Cafe();
  private final Cafe ahead = new Cafe();
  private final Past past = new Past();
  private final Cafe[] slots = new Cafe[SLOTS];
  private final Pad pad = new Pad();

  public DonorParts() {
  }

  public int thing(int kind, int broken, int patience, int tests) {
    past.note(now);
    return kept(now.addThing(kind, broken, patience, tests));
  }

  public int fixer(int kinds, int care) {
    past.note(now);
    return kept(now.addFixer(kinds, care));
  }

  public int drawer(int part, int many) {
    past.note(now);
    return kept(now.fillDrawer(part, many));
  }

  public int giveUp(int thing) {
    past.note(now);
    return kept(now.giveWaitingUp(thing));
  }

  public int pass(int minutes) {
    past.note(now);
    return kept(now.letPass(minutes));
  }

  public int ofThing(int thing, int what) {
    Thing t = now.thingAt(thing);
    if (t == null) {
      return NO_SUCH;
    }
    switch (what) {
      case 0: return t.kind;
      case 1: return t.broken;
      case 2: return t.patience;
      case 3: return t.tests;
      case 4: return t.how;
      case 5: return t.worker;
      case 6: return t.failures;
      case 7: return t.exchanged;
      case 8: return now.placeOf(thing);
      default: return BAD_VALUE;
    }
  }

  public int ofFixer(int fixer, int what) {
    Fixer f = now.fixerAt(fixer);
    if (f == null) {
      return NO_SUCH;
    }
    switch (what) {
      case 0: return f.kinds;
      case 1: return f.care;
      case 2: return f.task;
      case 3: return f.repaired;
      case 4: return f.givenUp;
      case 5: return f.worked;
      case 6: return now.nextOf(f.kinds);
      default: return BAD_VALUE;
    }
  }

  public int ofPart(int part, int what) {
    Part p = now.partAt(part);
    if (p == null) {
      return NO_SUCH;
    }
    switch (what) {
      case 0: return p.stock;
      case 1: return now.brokenOnes(part);
      case 2: return p.exchanged;
      case 3: return p.stripped;
      default: return BAD_VALUE;
    }
  }

  public int count(int what) {
    switch (what) {
      case 0: return now.minutes;
      case 1: return now.things;
      case 2: return now.fixers;
      case 3: return now.thingsThatAre(WAITS);
      case 4: return now.thingsThatAre(IN_REPAIR);
      case 5: return now.thingsThatAre(REPAIRED);
      case 6: return now.thingsThatAre(STRIPPED);
      case 7: return now.thingsThatAre(LEFT);
      case 8: return pad.length;
      case 9: return past.many;
      default: return BAD_VALUE;
    }
  }

  public int scarcest() {
    int scarce = NONE;
    int most = 0;
    for (int part = 0; part < PARTS; part++) {
      int missing = now.missingOnes(part);
      if (missing > most) {
        most = missing;
        scarce = part;
      }
    }
    return scarce;
  }

  public int doneIn(int thing) {
    ahead.copyFrom(now);
    Thing t = ahead.thingAt(thing);
    if (t == null) {
      return NO_SUCH;
    }
    for (int minutes = 0; minutes <= MOST_AHEAD; minutes++) {
      if (!t.isHere()) {
        return minutes;
      }
      ahead.passMinute();
    }
    return NONE;
  }

  public int withFixer(int kinds, int care, int minutes) {
    if (!isFixer(kinds, care) || !isWhatIf(minutes)) {
      return BAD_VALUE;
    }
    if (now.fixers >= MOST_FIXERS) {
      return TOO_MANY;
    }
    return repairedWith(kinds, care, minutes);
  }

  public int bestCare(int minutes) {
    if (!isWhatIf(minutes)) {
      return BAD_VALUE;
    }
    if (now.fixers >= MOST_FIXERS) {
      return TOO_MANY;
    }
    int best = 0;
    int most = -1;
    for (int care = 0; care <= MOST_CARE; care++) {
      int repaired = repairedWith(ALL_KINDS, care, minutes);
      if (repaired > most) {
        most = repaired;
        best = care;
      }
    }
    return best;
  }

  public int put(long characters) {
    int many = signsIn(characters);
    if (many == 0) {
      return BAD_VALUE;
    }
    if (pad.length + many > MOST_SIGNS) {
      return TOO_MANY;
    }
    for (int i = many - 1; i >= 0; i--) {
      pad.append((int) (characters >>> (8 * i) & 255));
    }
    return pad.length;
  }

  public int wipe() {
    int length = pad.length;
    pad.length = 0;
    return length;
  }

  public int fault() {
    pad.begin();
    for (int orders = 0; orders < MOST_SIGNS; orders++) {
      if (!pad.readOrder()) {
        return pad.at;
      }
      if (pad.isAtEnd()) {
        return NONE;
      }
      if (!pad.readSign(';')) {
        return pad.at;
      }
    }
    return pad.at;
  }

  public int carryOut() {
    if (fault() != NONE) {
      return BAD_TEXT;
    }
    past.note(now);
    past.keep();
    int carried = 0;
    pad.begin();
    while (carried < MOST_SIGNS && pad.readOrder() && carryOrder() >= 0) {
      carried++;
      pad.readSign(';');
    }
    pad.length = 0;
    return carried;
  }

  public int undo() {
    if (past.many <= 0) {
      return NOT_POSSIBLE;
    }
    past.takeBack(now);
    return past.many;
  }

  public int save(int slot) {
    if (slot < 0 || slot >= slots.length) {
      return BAD_VALUE;
    }
    Cafe saved = slots[slot];
    if (saved == null) {
      saved = new Cafe();
      slots[slot] = saved;
    }
    saved.copyFrom(now);
    return now.things;
  }

  public int restore(int slot) {
    if (slot < 0 || slot >= slots.length) {
      return BAD_VALUE;
    }
    Cafe saved = slots[slot];
    if (saved == null) {
      return NOT_POSSIBLE;
    }
    past.note(now);
    past.keep();
    now.copyFrom(saved);
    return now.things;
  }

  /** Keeps the state that was noted before a change, unless the change answered with an error. */
  private int kept(int answer) {
    if (answer >= 0) {
      past.keep();
    }
    return answer;
  }

  private int repairedWith(int kinds, int care, int minutes) {
    ahead.copyFrom(now);
    ahead.addFixer(kinds, care);
    return ahead.passMinutes(minutes);
  }

  private int carryOrder() {
    switch (pad.letter) {
      case '+': return now.addThing(pad.digit, pad.set, pad.number, pad.last);
      case 'f': return now.addFixer(pad.set, pad.last);
      case 'd': return now.fillDrawer(pad.digit, pad.number);
      default: return now.letPass(pad.number);
    }
  }

  /** How many characters the number holds, 0 if it is not one that can be put. */
  private static int signsIn(long characters) {
    long rest = characters;
    int many = 0;
    for (int i = 0; i < MOST_SIGNS_AT_ONCE && rest != 0; i++) {
      int code = (int) (rest & 255);
      if (code < LEAST_SIGN || code > LAST_SIGN) {
        return 0;
      }
      rest = rest >>> 8;
      many++;
    }
    return many;
  }

  private static boolean isFixer(int kinds, int care) {
    return kinds >= 1 && kinds <= ALL_KINDS && care >= 0 && care <= MOST_CARE;
  }

  private static boolean isWhatIf(int minutes) {
    return minutes >= 1 && minutes <= MOST_WHAT_IF;
  }

  private static boolean isIn(int set, int member) {
    return (set >> member & 1) != 0;
  }

  private static int partsOf(int kind) {
    int set = 0;
    for (int i = 0; i < PARTS_OF_A_THING; i++) {
      set |= 1 << (kind + i) % PARTS;
    }
    return set;
  }

  /** A thing; its place in the row of the cafe is its number. */
  private static final class Thing {
    int kind = 0;
    int broken = 0;
    int patience = 0;
    int tests = 0;
    int how = WAITS;
    int worker = NONE;
    int failures = 0;
    int exchanged = 0;

    void come(int newKind, int newBroken, int newPatience, int newTests) {
      kind = newKind;
      broken = newBroken;
      patience = newPatience;
      tests = newTests;
      how = WAITS;
      worker = NONE;
      failures = 0;
      exchanged = 0;
    }

    void copyFrom(Thing other) {
      if (other == null) {
        return;
      }
      kind = other.kind;
      broken = other.broken;
      patience = other.patience;
      tests = other.tests;
      how = other.how;
      worker = other.worker;
      failures = other.failures;
      exchanged = other.exchanged;
    }

    boolean isHere() {
      return how == WAITS || how == IN_REPAIR;
    }

    void end(int newHow) {
      how = newHow;
      worker = NONE;
    }

    /** Tries the lowest test that is not passed; tells whether the repair can go on. */
    boolean tryTest(int minute, int care) {
      if (tests == 0) {
        return true;
      }
      if ((minute + care + kind) % TEST_DIVISOR != 0) {
        tests &= tests - 1;
        return true;
      }
      broken |= 1 << kind;
      failures++;
      return failures < MOST_FAILURES;
    }
  }

  /** A fixer; the task is the number of a thing, or NONE. */
  private static final class Fixer {
    int kinds = 0;
    int care = 0;
    int task = NONE;
    int repaired = 0;
    int givenUp = 0;
    int worked = 0;

    void come(int newKinds, int newCare) {
      kinds = newKinds;
      care = newCare;
      task = NONE;
      repaired = 0;
      givenUp = 0;
      worked = 0;
    }

    void copyFrom(Fixer other) {
      if (other == null) {
        return;
      }
      kinds = other.kinds;
      care = other.care;
      task = other.task;
      repaired = other.repaired;
      givenUp = other.givenUp;
      worked = other.worked;
    }
  }

  /** A kind of parts, with what the drawer has of it. */
  private static final class Part {
    int stock = 1;
    int exchanged = 0;
    int stripped = 0;

    void copyFrom(Part other) {
      if (other == null) {
        return;
      }
      stock = other.stock;
      exchanged = other.exchanged;
      stripped = other.stripped;
    }

    /** Tells whether the drawer had room for the stripped part. */
    boolean takeIn() {
      stripped++;
      if (stock >= MOST_IN_DRAWER) {
        return false;
      }
      stock++;
      return true;
    }

    /** Tells whether the drawer had such a part to give. */
    boolean handOut() {
      if (stock <= 0) {
        return false;
      }
      stock--;
      exchanged++;
      return true;
    }
  }

  /** All that a change can change: one state of the cafe. */
  private static final class Cafe {
    int minutes = 0;
    int things = 0;
    int fixers = 0;
    private final Thing[] thingRow = new Thing[MOST_THINGS];
    private final Fixer[] fixerRow = new Fixer[MOST_FIXERS];
    private final Part[] partRow = new Part[PARTS];

    Cafe() {
      for (int i = 0; i < thingRow.length; i++) {
        thingRow[i] = new Thing();
      }
      for (int i = 0; i < fixerRow.length; i++) {
        fixerRow[i] = new Fixer();
      }
      for (int i = 0; i < partRow.length; i++) {
        partRow[i] = new Part();
      }
    }

    Thing thingAt(int number) {
      return number >= 0 && number < things && number < thingRow.length ? thingRow[number] : null;
    }

    Fixer fixerAt(int number) {
      return number >= 0 && number < fixers && number < fixerRow.length ? fixerRow[number] : null;
    }

    Part partAt(int number) {
      return number >= 0 && number < partRow.length ? partRow[number] : null;
    }

    void copyFrom(Cafe other) {
      minutes = other.minutes;
      things = other.things;
      fixers = other.fixers;
      for (int i = 0; i < MOST_THINGS; i++) {
        Thing t = thingAt(i);
        if (t != null) {
          t.copyFrom(other.thingAt(i));
        }
      }
      for (int i = 0; i < MOST_FIXERS; i++) {
        Fixer f = fixerAt(i);
        if (f != null) {
          f.copyFrom(other.fixerAt(i));
        }
      }
      for (int i = 0; i < PARTS; i++) {
        Part p = partAt(i);
        if (p != null) {
          p.copyFrom(other.partAt(i));
        }
      }
    }

    int addThing(int kind, int broken, int patience, int tests) {
      if (kind < 0 || kind >= KINDS) {
        return NO_SUCH;
      }
      if ((broken & ~partsOf(kind)) != 0 || patience < 1 || patience > MOST_PATIENCE) {
        return BAD_VALUE;
      }
      if (tests < 0 || tests > ALL_TESTS) {
        return BAD_VALUE;
      }
      if (things >= MOST_THINGS) {
        return TOO_MANY;
      }
      int number = things;
      things++;
      Thing t = thingAt(number);
      if (t != null) {
        t.come(kind, broken, patience, tests);
      }
      return number;
    }

    int addFixer(int kinds, int care) {
      if (!isFixer(kinds, care)) {
        return BAD_VALUE;
      }
      if (fixers >= MOST_FIXERS) {
        return TOO_MANY;
      }
      int number = fixers;
      fixers++;
      Fixer f = fixerAt(number);
      if (f != null) {
        f.come(kinds, care);
      }
      return number;
    }

    int fillDrawer(int part, int many) {
      Part p = partAt(part);
      if (p == null) {
        return NO_SUCH;
      }
      if (many < 0 || many > MOST_IN_DRAWER) {
        return BAD_VALUE;
      }
      int before = p.stock;
      p.stock = many;
      return before;
    }

    int giveWaitingUp(int thing) {
      Thing t = thingAt(thing);
      if (t == null) {
        return NO_SUCH;
      }
      if (t.how != WAITS) {
        return NOT_POSSIBLE;
      }
      return strip(t);
    }

    int letPass(int many) {
      if (many < 1 || many > MOST_AT_ONCE) {
        return BAD_VALUE;
      }
      if (minutes + many > MOST_MINUTES) {
        return NOT_POSSIBLE;
      }
      return passMinutes(many);
    }

    /** Returns how many things are repaired in the minutes. */
    int passMinutes(int many) {
      int end = minutes + many;
      int repaired = 0;
      // without a thing here a minute changes nothing but its own number
      for (int i = 0; i < many && hasThingHere(); i++) {
        repaired += passMinute();
      }
      minutes = end;
      return repaired;
    }

    /** Returns how many things are repaired in the minute. */
    int passMinute() {
      for (int i = 0; i < fixers; i++) {
        takeThing(i);
      }
      int repaired = 0;
      for (int i = 0; i < fixers; i++) {
        repaired += workOf(i);
      }
      losePatience();
      minutes++;
      return repaired;
    }

    private void takeThing(int fixer) {
      Fixer f = fixerAt(fixer);
      if (f == null || f.task != NONE) {
        return;
      }
      int next = nextOf(f.kinds);
      Thing t = thingAt(next);
      if (t != null) {
        f.task = next;
        t.how = IN_REPAIR;
        t.worker = fixer;
      }
    }

    /** Returns how many things the fixer gets repaired in this minute, 0 or 1. */
    private int workOf(int fixer) {
      Fixer f = fixerAt(fixer);
      if (f == null) {
        return 0;
      }
      Thing t = thingAt(f.task);
      if (t == null) {
        return 0;
      }
      f.worked++;
      boolean goesOn = t.broken != 0 ? exchangeLowest(t) : t.tryTest(minutes, f.care);
      if (!goesOn) {
        strip(t);
        f.task = NONE;
        f.givenUp++;
        return 0;
      }
      if (t.broken != 0 || t.tests != 0) {
        return 0;
      }
      t.end(REPAIRED);
      f.task = NONE;
      f.repaired++;
      return 1;
    }

    /** Tells whether the drawer had a part for the lowest broken one. */
    private boolean exchangeLowest(Thing t) {
      for (int i = 0; i < PARTS; i++) {
        if (isIn(t.broken, i)) {
          Part p = partAt(i);
          if (p == null || !p.handOut()) {
            return false;
          }
          t.broken &= ~(1 << i);
          t.exchanged++;
          return true;
        }
      }
      return false;
    }

    /** Returns how many of the good parts the drawer had room for. */
    private int strip(Thing t) {
      int taken = 0;
      int good = partsOf(t.kind) & ~t.broken;
      for (int i = 0; i < PARTS; i++) {
        Part p = partAt(i);
        if (p != null && isIn(good, i) && p.takeIn()) {
          taken++;
        }
      }
      t.end(STRIPPED);
      return taken;
    }

    private void losePatience() {
      for (int i = 0; i < things; i++) {
        Thing t = thingAt(i);
        if (t != null && t.how == WAITS) {
          t.patience--;
          if (t.patience <= 0) {
            t.end(LEFT);
          }
        }
      }
    }

    private boolean hasThingHere() {
      for (int i = 0; i < things; i++) {
        Thing t = thingAt(i);
        if (t != null && t.isHere()) {
          return true;
        }
      }
      return false;
    }

    /** The waiting thing of these kinds with the least patience, the lowest of several. */
    int nextOf(int kinds) {
      int next = NONE;
      int least = MOST_PATIENCE + 1;
      for (int i = 0; i < things; i++) {
        Thing t = thingAt(i);
        if (t != null && t.how == WAITS && isIn(kinds, t.kind) && t.patience < least) {
          least = t.patience;
          next = i;
        }
      }
      return next;
    }

    int placeOf(int thing) {
      Thing own = thingAt(thing);
      if (own == null || own.how != WAITS) {
        return NONE;
      }
      int place = 0;
      for (int i = 0; i < things; i++) {
        Thing t = thingAt(i);
        if (t == null || t.how != WAITS) {
          continue;
        }
        if (t.patience < own.patience || t.patience == own.patience && i < thing) {
          place++;
        }
      }
      return place;
    }

    int thingsThatAre(int how) {
      int many = 0;
      for (int i = 0; i < things; i++) {
        Thing t = thingAt(i);
        if (t != null && t.how == how) {
          many++;
        }
      }
      return many;
    }

    int brokenOnes(int part) {
      int many = 0;
      for (int i = 0; i < things; i++) {
        Thing t = thingAt(i);
        if (t != null && t.isHere() && isIn(t.broken, part)) {
          many++;
        }
      }
      return many;
    }

    int missingOnes(int part) {
      Part p = partAt(part);
      return p == null ? 0 : brokenOnes(part) - p.stock;
    }
  }

  /** The history, a ring: in one place more than can be undone, a state is noted before it is known to be kept. */
  private static final class Past {
    int many = 0;
    private int next = 0;
    private final Cafe[] ring = new Cafe[MOST_UNDONE + 1];

    Past() {
      for (int i = 0; i < ring.length; i++) {
        ring[i] = new Cafe();
      }
    }

    void note(Cafe state) {
      Cafe place = nextPlace();
      if (place != null) {
        place.copyFrom(state);
      }
    }

    void keep() {
      next = (next + 1) % (MOST_UNDONE + 1);
      many = Math.min(many + 1, MOST_UNDONE);
    }

    void takeBack(Cafe state) {
      next = (next + MOST_UNDONE) % (MOST_UNDONE + 1);
      many--;
      Cafe place = nextPlace();
      if (place != null) {
        state.copyFrom(place);
      }
    }

    private Cafe nextPlace() {
      return next >= 0 && next < ring.length ? ring[next] : null;
    }
  }

  /** The pad and the reading of it, which stops at the first sign that cannot stand at its place: the fault. */
  private static final class Pad {
    int length = 0;
    int at = 0;
    int letter = 0;
    int digit = 0;
    int set = 0;
    int number = 0;
    int last = 0;
    private final char[] signs = new char[MOST_SIGNS];

    void append(int sign) {
      if (length >= 0 && length < signs.length) {
        signs[length] = (char) sign;
        length++;
      }
    }

    /** The sign that is read next, 0 where the text has ended. */
    private int sign() {
      return at >= 0 && at < length && at < signs.length ? signs[at] : 0;
    }

    void begin() {
      at = 0;
    }

    boolean isAtEnd() {
      return at >= length;
    }

    boolean readOrder() {
      letter = sign();
      digit = 0;
      set = 0;
      number = 0;
      last = 0;
      switch (letter) {
        case '+': return readSign('+') && readThing();
        case 'f': return readSign('f') && readSet(KINDS - 1) && readSign('^') && readLast(MOST_CARE);
        case 'd': return readSign('d') && readDigit(PARTS - 1) && readSign('=') && readNumber();
        case 't': return readSign('t') && readNumber();
        default: return false;
      }
    }

    boolean readSign(int wanted) {
      if (sign() != wanted) {
        return false;
      }
      at++;
      return true;
    }

    private boolean readThing() {
      if (!readDigit(KINDS - 1)) {
        return false;
      }
      if (readSign(':') && !readSet(PARTS - 1)) {
        return false;
      }
      if (!readSign('!') || !readNumber()) {
        return false;
      }
      return !readSign('?') || readLast(ALL_TESTS);
    }

    private boolean readDigit(int top) {
      int value = digitAtMost(top);
      if (value < 0) {
        return false;
      }
      digit = value;
      return true;
    }

    private boolean readLast(int top) {
      int value = digitAtMost(top);
      if (value < 0) {
        return false;
      }
      last = value;
      return true;
    }

    private boolean readSet(int top) {
      for (int i = 0; i < MOST_SIGNS; i++) {
        int value = digitAtMost(top);
        if (value < 0) {
          break;
        }
        set |= 1 << value;
      }
      return set != 0;
    }

    /** A number has no leading zeros and at most two digits: a digit too many is left to be the fault. */
    private boolean readNumber() {
      int first = digitAtMost(9);
      if (first < 0) {
        return false;
      }
      int second = first == 0 ? -1 : digitAtMost(9);
      number = second < 0 ? first : 10 * first + second;
      return true;
    }

    /** Reads a digit of 0 to top, -1 if there is none. */
    private int digitAtMost(int top) {
      int value = sign() - '0';
      if (value < 0 || value > top) {
        return -1;
      }
      at++;
      return value;
    }
  }
}
