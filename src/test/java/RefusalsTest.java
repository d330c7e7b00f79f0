/**
 * The conventions: each refused call, in an object that is new, lively, crowded and late, answers with the error that
 * the document names first, and changes nothing; nor do the calls that only ask.
 */
public final class RefusalsTest {
  private static final int NO_SUCH = -1, BAD_VALUE = -2, BAD_TEXT = -3, TOO_MANY = -4, NOT_POSSIBLE = -5, NONE = -6;
  private static final int FAR = Integer.MAX_VALUE, DEEP = Integer.MIN_VALUE;

  public static void main(String[] args) {
    Twins bare = new Twins("new", x -> { });
    Twins lively = new Twins("lively", RefusalsTest::makeLively);
    Twins crowded = new Twins("crowded", RefusalsTest::makeCrowded);
    Twins late = new Twins("late", RefusalsTest::makeLate);
    for (Twins t : new Twins[] {bare, lively, crowded, late}) {
      refusedEverywhere(t);
    }
    refusedByANewObject(bare);
    refusedByALivelyObject(lively);
    refusedByACrowdedObject(crowded);
    refusedByALateObject(late);
    askingChangesNothing(lively);
    askingChangesNothing(crowded);
    askingChangesNothing(late);
    Due.end();
  }

  /** Things of all five states, a pad with a fault, one slot that is used, a full history; 0 and 5 are being repaired. */
  private static void makeLively(DonorParts x) {
    x.drawer(2, 0);
    x.fixer(1, 1);
    x.fixer(34, 0);
    x.thing(0, 3, 9, 7);
    x.thing(1, 0, 9, 0);
    x.thing(2, 0, 1, 0);
    x.thing(3, 8, 50, 5);
    x.save(0);
    x.thing(4, 16, 60, 0);
    x.thing(5, 32, 40, 2);
    x.giveUp(4);
    x.pass(2);
    x.drawer(0, 7);
    Due.write(x, "t1;d0=5;d1");
    for (int thing = 0; thing < 6; thing++) {
      Due.is("lively: how thing " + thing + " is", x.ofThing(thing, 4), new int[] {1, 2, 4, 0, 3, 1}[thing]);
    }
  }

  /** Thirty things, five fixers, a full pad, a full drawer of one part, an empty one of another, both slots used. */
  private static void makeCrowded(DonorParts x) {
    x.drawer(3, 99);
    x.drawer(4, 0);
    for (int i = 0; i < 5; i++) {
      x.fixer(1 << i, i);
    }
    x.save(1);
    for (int i = 0; i < 30; i++) {
      x.thing(i % 6, 1 << i % 6, 30 + i % 7, i % 8);
    }
    x.save(0);
    x.pass(1);
    for (int i = 0; i < 9; i++) {
      Due.write(x, "d1=22;t1");
      if (i < 8) {
        Due.write(x, ";");
      }
    }
    Due.is("crowded: the pad is full", x.count(8), 80);
    Due.is("crowded: its text is right", x.fault(), NONE);
  }

  /** In its last minute, with a thing that is being repaired and one that waits. */
  private static void makeLate(DonorParts x) {
    for (int i = 0; i < 101; i++) {
      x.pass(99 - i / 100);
    }
    x.fixer(63, 4);
    x.thing(1, 14, 9, 6);
    x.thing(2, 0, 9, 1);
    x.pass(1);
    Due.write(x, "t1");
    Due.is("late: the last minute", x.count(0), 9999);
    Due.is("late: one is being repaired", x.count(4), 1);
    Due.is("late: one waits", x.count(3), 1);
  }

  private static void refusedEverywhere(Twins t) {
    things(t);
    fixers(t);
    drawers(t);
    minutes(t);
    looks(t);
    whatIfs(t);
    characters(t);
    slots(t);
  }

  private static void things(Twins t) {
    for (int kind : new int[] {-1, 6, 7, 64, FAR, DEEP}) {
      t.answers("thing of the kind " + kind, NO_SUCH, x -> x.thing(kind, 0, 1, 0));
      t.answers("thing of the kind " + kind + ", all else wrong too", NO_SUCH, x -> x.thing(kind, 256, 100, 8));
    }
    for (int broken : new int[] {-1, 8, 15, 128, 256, FAR, DEEP}) {
      t.answers("thing of the kind 0 with " + broken, BAD_VALUE, x -> x.thing(0, broken, 1, 0));
    }
    for (int broken : new int[] {-1, 1, 16, 31, 240, 256, FAR, DEEP}) {
      t.answers("thing of the kind 5 with " + broken, BAD_VALUE, x -> x.thing(5, broken, 1, 0));
    }
    for (int patience : new int[] {0, -1, 100, FAR, DEEP}) {
      t.answers("thing of the patience " + patience, BAD_VALUE, x -> x.thing(0, 0, patience, 0));
    }
    for (int tests : new int[] {-1, 8, 9, FAR, DEEP}) {
      t.answers("thing with the tests " + tests, BAD_VALUE, x -> x.thing(0, 0, 1, tests));
    }
    for (int thing : new int[] {-1, 30, 31, FAR, DEEP}) {
      t.answers("giveUp(" + thing + ")", NO_SUCH, x -> x.giveUp(thing));
    }
  }

  private static void fixers(Twins t) {
    for (int kinds : new int[] {0, -1, 64, 65, 127, FAR, DEEP}) {
      t.answers("fixer of the kinds " + kinds, BAD_VALUE, x -> x.fixer(kinds, 0));
    }
    for (int care : new int[] {-1, 10, FAR, DEEP}) {
      t.answers("fixer of the care " + care, BAD_VALUE, x -> x.fixer(63, care));
    }
  }

  private static void drawers(Twins t) {
    for (int part : new int[] {-1, 8, 9, FAR, DEEP}) {
      t.answers("drawer(" + part + ", 0)", NO_SUCH, x -> x.drawer(part, 0));
      t.answers("drawer(" + part + ", 100)", NO_SUCH, x -> x.drawer(part, 100));
    }
    for (int many : new int[] {-1, 100, FAR, DEEP}) {
      t.answers("drawer(0, " + many + ")", BAD_VALUE, x -> x.drawer(0, many));
      t.answers("drawer(7, " + many + ")", BAD_VALUE, x -> x.drawer(7, many));
    }
  }

  private static void minutes(Twins t) {
    for (int minutes : new int[] {0, -1, 100, 101, FAR, DEEP}) {
      t.answers("pass(" + minutes + ")", BAD_VALUE, x -> x.pass(minutes));
    }
  }

  private static void looks(Twins t) {
    for (int number : new int[] {-1, 30, FAR, DEEP}) {
      t.answers("ofThing(" + number + ", 0)", NO_SUCH, x -> x.ofThing(number, 0));
      t.answers("ofThing(" + number + ", 9)", NO_SUCH, x -> x.ofThing(number, 9));
      t.answers("ofFixer(" + number + ", 0)", NO_SUCH, x -> x.ofFixer(number, 0));
      t.answers("ofFixer(" + number + ", 7)", NO_SUCH, x -> x.ofFixer(number, 7));
      t.answers("ofPart(" + number + ", 0)", NO_SUCH, x -> x.ofPart(number, 0));
      t.answers("ofPart(" + number + ", 4)", NO_SUCH, x -> x.ofPart(number, 4));
      t.answers("doneIn(" + number + ")", NO_SUCH, x -> x.doneIn(number));
    }
    t.answers("ofFixer(5, 0)", NO_SUCH, x -> x.ofFixer(5, 0));
    t.answers("ofPart(8, 0)", NO_SUCH, x -> x.ofPart(8, 0));
    for (int what : new int[] {-1, 4, FAR, DEEP}) {
      t.answers("ofPart(0, " + what + ")", BAD_VALUE, x -> x.ofPart(0, what));
    }
    for (int what : new int[] {-1, 10, FAR, DEEP}) {
      t.answers("count(" + what + ")", BAD_VALUE, x -> x.count(what));
    }
  }

  private static void whatIfs(Twins t) {
    for (int kinds : new int[] {0, -1, 64, FAR, DEEP}) {
      t.answers("withFixer(" + kinds + ", 0, 1)", BAD_VALUE, x -> x.withFixer(kinds, 0, 1));
    }
    for (int care : new int[] {-1, 10, FAR, DEEP}) {
      t.answers("withFixer(1, " + care + ", 1)", BAD_VALUE, x -> x.withFixer(1, care, 1));
    }
    for (int minutes : new int[] {0, -1, 301, FAR, DEEP}) {
      t.answers("withFixer(1, 0, " + minutes + ")", BAD_VALUE, x -> x.withFixer(1, 0, minutes));
      t.answers("bestCare(" + minutes + ")", BAD_VALUE, x -> x.bestCare(minutes));
    }
  }

  private static void characters(Twins t) {
    for (long characters : new long[] {0, 32, 127, 128, 255, -1, Long.MIN_VALUE, Long.MAX_VALUE, 't' << 8,
        't' << 16 | '1', 1L << 63 | 't', Due.packed(" t1"), Due.packed("t 1"), Due.packed("t1 ")}) {
      t.answers("put(" + characters + ")", BAD_VALUE, x -> x.put(characters));
    }
  }

  private static void slots(Twins t) {
    for (int slot : new int[] {-1, 2, 3, FAR, DEEP}) {
      t.answers("save(" + slot + ")", BAD_VALUE, x -> x.save(slot));
      t.answers("restore(" + slot + ")", BAD_VALUE, x -> x.restore(slot));
    }
  }

  private static void refusedByANewObject(Twins t) {
    t.answers("undo()", NOT_POSSIBLE, DonorParts::undo);
    t.answers("restore(0)", NOT_POSSIBLE, x -> x.restore(0));
    t.answers("restore(1)", NOT_POSSIBLE, x -> x.restore(1));
    t.answers("carryOut() of an empty pad", BAD_TEXT, DonorParts::carryOut);
    t.answers("giveUp(0)", NO_SUCH, x -> x.giveUp(0));
    t.answers("ofThing(0, 0)", NO_SUCH, x -> x.ofThing(0, 0));
    t.answers("ofFixer(0, 0)", NO_SUCH, x -> x.ofFixer(0, 0));
    t.answers("doneIn(0)", NO_SUCH, x -> x.doneIn(0));
    t.answers("scarcest()", NONE, DonorParts::scarcest);
    t.answers("fault()", 0, DonorParts::fault);
    t.answers("wipe()", 0, DonorParts::wipe);
  }

  private static void refusedByALivelyObject(Twins t) {
    t.answers("giveUp of one that is being repaired", NOT_POSSIBLE, x -> x.giveUp(0));
    t.answers("giveUp of one that is repaired", NOT_POSSIBLE, x -> x.giveUp(1));
    t.answers("giveUp of one whose owner left", NOT_POSSIBLE, x -> x.giveUp(2));
    t.answers("giveUp of one that is stripped", NOT_POSSIBLE, x -> x.giveUp(4));
    t.answers("giveUp of one that has not come", NO_SUCH, x -> x.giveUp(6));
    t.answers("ofThing of one that has not come", NO_SUCH, x -> x.ofThing(6, 0));
    t.answers("ofFixer of one who has not come", NO_SUCH, x -> x.ofFixer(2, 0));
    t.answers("doneIn of one that has not come", NO_SUCH, x -> x.doneIn(6));
    t.answers("carryOut of a text that ends too early", BAD_TEXT, DonorParts::carryOut);
    t.answers("restore of the slot in which nothing was saved", NOT_POSSIBLE, x -> x.restore(1));
    wrongWhat(t);
  }

  private static void refusedByACrowdedObject(Twins t) {
    t.answers("a thing more", TOO_MANY, x -> x.thing(0, 0, 1, 0));
    t.answers("a thing more, of the last kind", TOO_MANY, x -> x.thing(5, 224, 99, 7));
    t.answers("a fixer more", TOO_MANY, x -> x.fixer(1, 0));
    t.answers("a fixer more, of all kinds", TOO_MANY, x -> x.fixer(63, 9));
    t.answers("withFixer of one more", TOO_MANY, x -> x.withFixer(1, 0, 1));
    t.answers("withFixer of one more, for long", TOO_MANY, x -> x.withFixer(63, 9, 300));
    t.answers("bestCare of one more", TOO_MANY, x -> x.bestCare(1));
    t.answers("bestCare of one more, for long", TOO_MANY, x -> x.bestCare(300));
    t.answers("a character more", TOO_MANY, x -> x.put('1'));
    t.answers("eight characters more", TOO_MANY, x -> x.put(Due.packed(";t1;d0=5")));
    wrongWhat(t);
  }

  private static void refusedByALateObject(Twins t) {
    t.answers("pass(1)", NOT_POSSIBLE, x -> x.pass(1));
    t.answers("pass(99)", NOT_POSSIBLE, x -> x.pass(99));
    t.answers("giveUp of one that is being repaired", NOT_POSSIBLE, x -> x.giveUp(0));
    wrongWhat(t);
  }

  private static void wrongWhat(Twins t) {
    for (int what : new int[] {-1, 9, 10, FAR, DEEP}) {
      t.answers("ofThing(0, " + what + ")", BAD_VALUE, x -> x.ofThing(0, what));
    }
    for (int what : new int[] {-1, 7, 8, FAR, DEEP}) {
      t.answers("ofFixer(0, " + what + ")", BAD_VALUE, x -> x.ofFixer(0, what));
    }
  }

  /** What asks, and is not refused, changes nothing either: each answers the same as on an object that was not asked before. */
  private static void askingChangesNothing(Twins t) {
    for (int what = 0; what <= 9; what++) {
      int asked = what;
      t.asks("count(" + what + ")", x -> x.count(asked));
    }
    for (int what = 0; what <= 8; what++) {
      int asked = what;
      t.asks("ofThing(1, " + what + ")", x -> x.ofThing(1, asked));
    }
    for (int what = 0; what <= 6; what++) {
      int asked = what;
      t.asks("ofFixer(0, " + what + ")", x -> x.ofFixer(0, asked));
    }
    for (int what = 0; what <= 3; what++) {
      int asked = what;
      t.asks("ofPart(7, " + what + ")", x -> x.ofPart(7, asked));
    }
    t.asks("scarcest()", DonorParts::scarcest);
    t.asks("fault()", DonorParts::fault);
    t.asks("doneIn(0)", x -> x.doneIn(0));
    t.asks("doneIn(1)", x -> x.doneIn(1));
    t.asks("withFixer(63, 5, 300)", x -> x.withFixer(63, 5, 300));
    t.asks("bestCare(300)", x -> x.bestCare(300));
  }
}
