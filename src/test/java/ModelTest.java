/** All promises: runs of calls of every sort, each answer compared with the model's. */
public final class ModelTest {
  private static final int RUNS = 600, CALLS = 512;
  private static final String[] PIECES = {"+", "f", "d", "t", ";", ":", "!", "?", "^", "=", "0", "1", "5", "7", "9"};

  private static long seed;
  private static DonorParts x;
  private static Model m;
  private static String run;
  private static int calls;

  /** Figures that look mixed but are the same each time. */
  private static int pick(int below) {
    seed = seed * 6364136223846793005L + 1442695040888963407L;
    return (int) ((seed >>> 33) % below);
  }

  public static void main(String[] args) {
    for (int r = 0; r < RUNS; r++) {
      seed = 1000003L * r + 17;
      pick(2);
      run = "run " + r + ", call ";
      x = new DonorParts();
      m = new Model();
      int sort = r % 4;
      calls = 0;
      for (int c = 0; c < CALLS && calls < CALLS; c++) {
        call(sort, c);
      }
    }
    Due.end();
  }

  /** The sorts of runs differ in what comes often: things, what-ifs, texts, or time. */
  private static void call(int sort, int c) {
    int by = pick(100);
    if (sort == 3 && c < 120 && by < 80) {
      pass(c, 99 - pick(2) * pick(5));
    } else if (by < 22) {
      thing(c, sort);
    } else if (by < 25) {
      fixer(c);
    } else if (by < 31) {
      drawer(c);
    } else if (by < 35) {
      giveUp(c);
    } else if (by < 47) {
      pass(c, pick(12) == 0 ? pick(103) - 2 : 1 + pick(4));
    } else if (by < 50) {
      whatIf(c);
    } else if (by < (sort == 2 ? 72 : 56)) {
      text(c);
    } else if (by < 60 + (sort == 2 ? 14 : 0)) {
      undoOrRestore(c);
    } else {
      look(c);
    }
  }

  private static void due(int c, String call, int answer, int due) {
    calls++;
    Due.is(run + c + ": " + call, answer, due);
  }

  private static int odd(int usual) {
    switch (pick(60)) {
      case 0: return -1;
      case 1: return Integer.MAX_VALUE;
      case 2: return Integer.MIN_VALUE;
      case 3: return usual + 64;
      case 4: return usual ^ 1 << pick(32);
      default: return usual;
    }
  }

  private static void thing(int c, int sort) {
    int kind = pick(6);
    int broken = (7 << kind) & pick(256) & (pick(3) == 0 ? 255 : pick(256));
    int patience = 1 + pick(sort == 0 ? 99 : 20);
    int tests = pick(8) & pick(8);
    kind = odd(kind);
    broken = odd(broken);
    patience = odd(patience);
    tests = odd(tests);
    String call = "thing(" + kind + ", " + broken + ", " + patience + ", " + tests + ")";
    due(c, call, x.thing(kind, broken, patience, tests), m.thing(kind, broken, patience, tests));
  }

  private static void fixer(int c) {
    int kinds = odd(1 + pick(63));
    int care = odd(pick(10));
    due(c, "fixer(" + kinds + ", " + care + ")", x.fixer(kinds, care), m.fixer(kinds, care));
  }

  private static void drawer(int c) {
    int part = odd(pick(8));
    int many = odd(pick(3) == 0 ? 97 + pick(4) : pick(4));
    due(c, "drawer(" + part + ", " + many + ")", x.drawer(part, many), m.drawer(part, many));
  }

  private static void giveUp(int c) {
    int thing = odd(pick(31));
    due(c, "giveUp(" + thing + ")", x.giveUp(thing), m.giveUp(thing));
  }

  private static void pass(int c, int minutes) {
    due(c, "pass(" + minutes + ")", x.pass(minutes), m.pass(minutes));
  }

  private static void whatIf(int c) {
    int minutes = odd(1 + (pick(4) == 0 ? pick(301) : pick(20)));
    if (pick(2) == 0) {
      int kinds = odd(1 + pick(63));
      int care = odd(pick(10));
      String call = "withFixer(" + kinds + ", " + care + ", " + minutes + ")";
      due(c, call, x.withFixer(kinds, care, minutes), m.withFixer(kinds, care, minutes));
    } else {
      due(c, "bestCare(" + minutes + ")", x.bestCare(minutes), m.bestCare(minutes));
    }
  }

  private static void text(int c) {
    switch (pick(8)) {
      case 0:
        due(c, "wipe()", x.wipe(), m.wipe());
        break;
      case 1:
        due(c, "fault()", x.fault(), m.fault());
        break;
      case 2:
      case 3:
        due(c, "carryOut()", x.carryOut(), m.carryOut());
        break;
      case 4:
        long characters = oddCharacters();
        due(c, "put(" + characters + ")", x.put(characters), m.put(characters));
        break;
      default:
        putAll(c, (m.count(8) > 0 && pick(8) > 0 ? ";" : "") + order());
        if (calls < CALLS) {
          due(c, "fault()", x.fault(), m.fault());
        }
    }
  }

  private static long oddCharacters() {
    if (pick(4) == 0) {
      return ((long) pick(Integer.MAX_VALUE) << 33 ^ pick(Integer.MAX_VALUE)) >>> 8 * pick(8) << 8 * pick(3);
    }
    long characters = 0;
    int many = pick(9);
    for (int i = 0; i < many; i++) {
      int code = pick(40) == 0 ? pick(256) : PIECES[pick(PIECES.length)].charAt(0);
      characters = characters << 8 | code;
    }
    return characters;
  }

  private static void putAll(int c, String text) {
    for (int from = 0; from < text.length() && calls < CALLS; from += 8) {
      String piece = text.substring(from, Math.min(text.length(), from + 8));
      long characters = Due.packed(piece);
      due(c, "put(" + characters + "), which is " + piece, x.put(characters), m.put(characters));
    }
  }

  private static String order() {
    switch (pick(5)) {
      case 0:
        return "f" + pick(6) + (pick(2) == 0 ? "" + pick(6) + pick(6) : "") + "^" + pick(10);
      case 1:
        return "d" + pick(8) + "=" + pick(pick(2) == 0 ? 3 : 100);
      case 2:
        return "t" + pick(pick(3) == 0 ? 110 : 5);
      default:
        int kind = pick(6);
        String parts = pick(2) == 0 ? "" : ":" + (kind + pick(3)) + (pick(2) == 0 ? "" : "" + (kind + pick(3)));
        return "+" + kind + parts + "!" + pick(30) + (pick(2) == 0 ? "" : "?" + pick(8));
    }
  }

  private static void undoOrRestore(int c) {
    int slot = odd(pick(2));
    switch (pick(5)) {
      case 0:
        due(c, "save(" + slot + ")", x.save(slot), m.save(slot));
        break;
      case 1:
        due(c, "restore(" + slot + ")", x.restore(slot), m.restore(slot));
        break;
      default:
        due(c, "undo()", x.undo(), m.undo());
    }
  }

  private static void look(int c) {
    int thing = odd(pick(Math.min(31, m.count(1) + 1)));
    int fixer = odd(pick(6));
    int part = odd(pick(9));
    int what;
    switch (pick(8)) {
      case 0:
      case 1:
        what = odd(pick(10));
        due(c, "ofThing(" + thing + ", " + what + ")", x.ofThing(thing, what), m.ofThing(thing, what));
        break;
      case 2:
      case 3:
        what = odd(pick(8));
        due(c, "ofFixer(" + fixer + ", " + what + ")", x.ofFixer(fixer, what), m.ofFixer(fixer, what));
        break;
      case 4:
        what = odd(pick(5));
        due(c, "ofPart(" + part + ", " + what + ")", x.ofPart(part, what), m.ofPart(part, what));
        break;
      case 5:
        what = odd(pick(11));
        due(c, "count(" + what + ")", x.count(what), m.count(what));
        break;
      case 6:
        due(c, "scarcest()", x.scarcest(), m.scarcest());
        break;
      default:
        due(c, "doneIn(" + thing + ")", x.doneIn(thing), m.doneIn(thing));
    }
  }
}
