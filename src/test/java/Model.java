import java.util.ArrayDeque;
import java.util.ArrayList;
import java.util.Arrays;
import java.util.Comparator;
import java.util.Deque;
import java.util.List;
import java.util.Optional;
import java.util.TreeSet;
import java.util.regex.Matcher;
import java.util.regex.Pattern;

/**
 * The document once more, written with all of the Java library and without thought of speed, to compare with. States
 * are never changed in place but for the one at hand: they are copied whole before each change.
 */
final class Model {
  private static final int NO_SUCH = -1, BAD_VALUE = -2, BAD_TEXT = -3, TOO_MANY = -4, NOT_POSSIBLE = -5, NONE = -6;
  private static final String NUMBER = "(0|[1-9][0-9]?)";
  private static final String ORDER =
      "(?:\\+[0-5](?::[0-7]+)?!" + NUMBER + "(?:\\?[0-7])?|f[0-5]+\\^[0-9]|d[0-7]=" + NUMBER + "|t" + NUMBER + ")";
  private static final Pattern TEXT = Pattern.compile(ORDER + "(?:;" + ORDER + ")*");

  enum How { WAITS, IN_REPAIR, REPAIRED, STRIPPED, LEFT }

  static final class Item {
    int number, kind, patience, failures, exchanged;
    TreeSet<Integer> broken = new TreeSet<>();
    TreeSet<Integer> tests = new TreeSet<>();
    How how = How.WAITS;

    Item copy() {
      Item c = new Item();
      c.number = number;
      c.kind = kind;
      c.patience = patience;
      c.failures = failures;
      c.exchanged = exchanged;
      c.broken.addAll(broken);
      c.tests.addAll(tests);
      c.how = how;
      return c;
    }

    List<Integer> own() {
      return List.of(kind, (kind + 1) % 8, (kind + 2) % 8);
    }

    boolean live() {
      return how == How.WAITS || how == How.IN_REPAIR;
    }
  }

  static final class Worker {
    int number, care, repaired, dropped, minutes;
    TreeSet<Integer> kinds = new TreeSet<>();
    int item = -1;

    Worker copy() {
      Worker c = new Worker();
      c.number = number;
      c.care = care;
      c.repaired = repaired;
      c.dropped = dropped;
      c.minutes = minutes;
      c.kinds.addAll(kinds);
      c.item = item;
      return c;
    }
  }

  static final class State {
    int clock;
    List<Item> items = new ArrayList<>();
    List<Worker> workers = new ArrayList<>();
    int[] drawer = {1, 1, 1, 1, 1, 1, 1, 1};
    int[] used = new int[8];
    int[] stripped = new int[8];

    State copy() {
      State c = new State();
      c.clock = clock;
      for (Item i : items) {
        c.items.add(i.copy());
      }
      for (Worker w : workers) {
        c.workers.add(w.copy());
      }
      c.drawer = drawer.clone();
      c.used = used.clone();
      c.stripped = stripped.clone();
      return c;
    }

    List<Item> queue() {
      List<Item> q = new ArrayList<>();
      for (Item i : items) {
        if (i.how == How.WAITS) {
          q.add(i);
        }
      }
      q.sort(Comparator.comparingInt((Item i) -> i.patience).thenComparingInt(i -> i.number));
      return q;
    }

    Optional<Item> nextFor(Worker w) {
      return queue().stream().filter(i -> w.kinds.contains(i.kind)).findFirst();
    }

    int strip(Item item) {
      item.how = How.STRIPPED;
      int kept = 0;
      for (int part : item.own()) {
        if (!item.broken.contains(part)) {
          stripped[part]++;
          if (drawer[part] < 99) {
            drawer[part]++;
            kept++;
          }
        }
      }
      return kept;
    }

    void minute() {
      for (Worker w : workers) {
        if (w.item < 0) {
          nextFor(w).ifPresent(i -> {
            i.how = How.IN_REPAIR;
            w.item = i.number;
          });
        }
      }
      for (Worker w : workers) {
        if (w.item >= 0) {
          w.minutes++;
          work(w, items.get(w.item));
        }
      }
      for (Item i : queue()) {
        if (--i.patience == 0) {
          i.how = How.LEFT;
        }
      }
      clock++;
    }

    private void work(Worker w, Item i) {
      boolean lost = false;
      if (!i.broken.isEmpty()) {
        int part = i.broken.first();
        if (drawer[part] == 0) {
          lost = true;
        } else {
          drawer[part]--;
          used[part]++;
          i.exchanged++;
          i.broken.remove(part);
        }
      } else if (!i.tests.isEmpty()) {
        if ((clock + w.care + i.kind) % 3 != 0) {
          i.tests.pollFirst();
        } else {
          i.broken.add(i.kind);
          i.failures++;
          lost = i.failures == 3;
        }
      }
      if (lost) {
        strip(i);
        w.dropped++;
        w.item = -1;
      } else if (i.broken.isEmpty() && i.tests.isEmpty()) {
        i.how = How.REPAIRED;
        w.repaired++;
        w.item = -1;
      }
    }

    int number(How how) {
      return (int) items.stream().filter(i -> i.how == how).count();
    }

    int broken(int part) {
      return (int) items.stream().filter(i -> i.live() && i.broken.contains(part)).count();
    }

    int thing(int kind, int broken, int patience, int tests) {
      if (kind < 0 || kind > 5) {
        return NO_SUCH;
      }
      if (broken < 0 || broken > 255 || patience < 1 || patience > 99 || tests < 0 || tests > 7) {
        return BAD_VALUE;
      }
      Item i = new Item();
      i.number = items.size();
      i.kind = kind;
      i.patience = patience;
      i.broken.addAll(members(broken));
      i.tests.addAll(members(tests));
      if (!i.own().containsAll(i.broken)) {
        return BAD_VALUE;
      }
      if (items.size() == 30) {
        return TOO_MANY;
      }
      items.add(i);
      return i.number;
    }

    int fixer(int kinds, int care) {
      if (kinds < 1 || kinds > 63 || care < 0 || care > 9) {
        return BAD_VALUE;
      }
      if (workers.size() == 5) {
        return TOO_MANY;
      }
      Worker w = new Worker();
      w.number = workers.size();
      w.care = care;
      w.kinds.addAll(members(kinds));
      workers.add(w);
      return w.number;
    }

    int drawer(int part, int many) {
      if (part < 0 || part > 7) {
        return NO_SUCH;
      }
      if (many < 0 || many > 99) {
        return BAD_VALUE;
      }
      int before = drawer[part];
      drawer[part] = many;
      return before;
    }

    int giveUp(int thing) {
      if (thing < 0 || thing >= items.size()) {
        return NO_SUCH;
      }
      return items.get(thing).how == How.WAITS ? strip(items.get(thing)) : NOT_POSSIBLE;
    }

    int pass(int minutes) {
      if (minutes < 1 || minutes > 99) {
        return BAD_VALUE;
      }
      if (clock + minutes > 9999) {
        return NOT_POSSIBLE;
      }
      return repairedIn(minutes);
    }

    int repairedIn(int minutes) {
      int before = number(How.REPAIRED);
      for (int m = 0; m < minutes; m++) {
        minute();
      }
      return number(How.REPAIRED) - before;
    }
  }

  private State state = new State();
  private final Deque<State> history = new ArrayDeque<>();
  private final State[] slots = new State[2];
  private String pad = "";

  private static TreeSet<Integer> members(int set) {
    TreeSet<Integer> members = new TreeSet<>();
    for (int i = 0; i < 32; i++) {
      if ((set >>> i & 1) == 1) {
        members.add(i);
      }
    }
    return members;
  }

  private static int setOf(TreeSet<Integer> members) {
    return members.stream().mapToInt(i -> 1 << i).sum();
  }

  private int recorded(State before, int answer) {
    if (answer >= 0) {
      history.addLast(before);
      if (history.size() > 6) {
        history.removeFirst();
      }
    }
    return answer;
  }

  int thing(int kind, int broken, int patience, int tests) {
    State before = state.copy();
    return recorded(before, state.thing(kind, broken, patience, tests));
  }

  int fixer(int kinds, int care) {
    State before = state.copy();
    return recorded(before, state.fixer(kinds, care));
  }

  int drawer(int part, int many) {
    State before = state.copy();
    return recorded(before, state.drawer(part, many));
  }

  int giveUp(int thing) {
    State before = state.copy();
    return recorded(before, state.giveUp(thing));
  }

  int pass(int minutes) {
    State before = state.copy();
    return recorded(before, state.pass(minutes));
  }

  int ofThing(int thing, int what) {
    if (thing < 0 || thing >= state.items.size()) {
      return NO_SUCH;
    }
    if (what < 0 || what > 8) {
      return BAD_VALUE;
    }
    Item i = state.items.get(thing);
    int place = state.queue().indexOf(i);
    int worker = state.workers.stream().filter(w -> w.item == thing).mapToInt(w -> w.number).findFirst().orElse(NONE);
    return new int[] {i.kind, setOf(i.broken), i.patience, setOf(i.tests), i.how.ordinal(), worker, i.failures,
        i.exchanged, place < 0 ? NONE : place}[what];
  }

  int ofFixer(int fixer, int what) {
    if (fixer < 0 || fixer >= state.workers.size()) {
      return NO_SUCH;
    }
    if (what < 0 || what > 6) {
      return BAD_VALUE;
    }
    Worker w = state.workers.get(fixer);
    int next = state.nextFor(w).map(i -> i.number).orElse(NONE);
    return new int[] {setOf(w.kinds), w.care, w.item < 0 ? NONE : w.item, w.repaired, w.dropped, w.minutes, next}[what];
  }

  int ofPart(int part, int what) {
    if (part < 0 || part > 7) {
      return NO_SUCH;
    }
    if (what < 0 || what > 3) {
      return BAD_VALUE;
    }
    return new int[] {state.drawer[part], state.broken(part), state.used[part], state.stripped[part]}[what];
  }

  int count(int what) {
    if (what < 0 || what > 9) {
      return BAD_VALUE;
    }
    List<Integer> counts = new ArrayList<>(List.of(state.clock, state.items.size(), state.workers.size()));
    for (How how : How.values()) {
      counts.add(state.number(how));
    }
    counts.addAll(List.of(pad.length(), history.size()));
    return counts.get(what);
  }

  int scarcest() {
    int[] missing = new int[8];
    for (int part = 0; part < 8; part++) {
      missing[part] = state.broken(part) - state.drawer[part];
    }
    int most = Arrays.stream(missing).max().getAsInt();
    for (int part = 0; part < 8; part++) {
      if (missing[part] == most && most > 0) {
        return part;
      }
    }
    return NONE;
  }

  int doneIn(int thing) {
    if (thing < 0 || thing >= state.items.size()) {
      return NO_SUCH;
    }
    State ahead = state.copy();
    int start = ahead.clock;
    while (ahead.items.get(thing).live()) {
      ahead.minute();
    }
    int minutes = ahead.clock - start;
    return minutes > 500 ? NONE : minutes;
  }

  int withFixer(int kinds, int care, int minutes) {
    State ahead = state.copy();
    if (minutes < 1 || minutes > 300) {
      return BAD_VALUE;
    }
    int number = ahead.fixer(kinds, care);
    return number < 0 ? number : ahead.repairedIn(minutes);
  }

  int bestCare(int minutes) {
    int best = -1;
    int most = -1;
    for (int care = 9; care >= 0; care--) {
      int repaired = withFixer(63, care, minutes);
      if (repaired < 0) {
        return repaired;
      }
      if (repaired >= most) {
        most = repaired;
        best = care;
      }
    }
    return best;
  }

  int put(long characters) {
    StringBuilder text = new StringBuilder();
    boolean ended = false;
    boolean bad = false;
    for (int i = 0; i < 8; i++) {
      int code = (int) (characters >>> 8 * i & 255);
      if (code == 0) {
        ended = true;
      } else if (ended || code < 33 || code > 126) {
        bad = true;
      } else {
        text.insert(0, (char) code);
      }
    }
    if (bad || text.length() == 0) {
      return BAD_VALUE;
    }
    if (pad.length() + text.length() > 80) {
      return TOO_MANY;
    }
    pad += text;
    return pad.length();
  }

  int wipe() {
    int length = pad.length();
    pad = "";
    return length;
  }

  /** A text can still become a right one if the pattern matches, or if its end was reached in looking for that. */
  int fault() {
    for (int i = 1; i <= pad.length(); i++) {
      Matcher m = TEXT.matcher(pad.substring(0, i));
      if (!m.matches() && !m.hitEnd()) {
        return i - 1;
      }
    }
    return TEXT.matcher(pad).matches() ? NONE : pad.length();
  }

  int carryOut() {
    if (fault() != NONE) {
      return BAD_TEXT;
    }
    State before = state.copy();
    int carried = 0;
    for (String order : pad.split(";")) {
      if (carry(order) < 0) {
        break;
      }
      carried++;
    }
    pad = "";
    return recorded(before, carried);
  }

  private int carry(String order) {
    String rest = order.substring(1);
    switch (order.charAt(0)) {
      case '+': {
        String[] halves = rest.split("!");
        String[] ends = halves[1].split("\\?");
        String parts = halves[0].contains(":") ? halves[0].split(":")[1] : "";
        return state.thing(halves[0].charAt(0) - '0', digits(parts), Integer.parseInt(ends[0]),
            ends.length > 1 ? Integer.parseInt(ends[1]) : 0);
      }
      case 'f':
        return state.fixer(digits(rest.split("\\^")[0]), Integer.parseInt(rest.split("\\^")[1]));
      case 'd':
        return state.drawer(Integer.parseInt(rest.split("=")[0]), Integer.parseInt(rest.split("=")[1]));
      default:
        return state.pass(Integer.parseInt(rest));
    }
  }

  private static int digits(String digits) {
    TreeSet<Integer> members = new TreeSet<>();
    for (char c : digits.toCharArray()) {
      members.add(c - '0');
    }
    return setOf(members);
  }

  int undo() {
    if (history.isEmpty()) {
      return NOT_POSSIBLE;
    }
    state = history.removeLast();
    return history.size();
  }

  int save(int slot) {
    if (slot < 0 || slot > 1) {
      return BAD_VALUE;
    }
    slots[slot] = state.copy();
    return state.items.size();
  }

  int restore(int slot) {
    if (slot < 0 || slot > 1) {
      return BAD_VALUE;
    }
    if (slots[slot] == null) {
      return NOT_POSSIBLE;
    }
    State before = state;
    state = slots[slot].copy();
    return recorded(before, state.items.size());
  }
}
