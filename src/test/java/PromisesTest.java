import java.util.Arrays;

/**
 * The sentences of promises 1 to 21 that say what a call answers or changes and name no bound, a test for each, in the
 * document's order; the sentence stands above it. Those that name a bound are in the tests of bounds.
 */
public final class PromisesTest {
  private static final int NO_SUCH = -1, NOT_POSSIBLE = -5, NONE = -6;

  public static void main(String[] args) {
    aNewObject();
    aThingComes();
    aFixerComes();
    drawerChanges();
    aThingIsGivenUp();
    minutesPass();
    aboutAThing();
    aboutAThingAtWork();
    aboutAFixer();
    aboutAPart();
    numbers();
    numbersOfThings();
    theMostMissing();
    repairedIn();
    strippedIn();
    leftIn();
    withAFixerMore();
    theBestCare();
    charactersAreAppended();
    padIsEmptied();
    faultOfThePad();
    ordersAreCarriedOut();
    latestChangeIsUndone();
    everythingIsSaved();
    whatWasSavedLast();
    Due.end();
  }

  /** A cafe in which much is going on: one in work, one repaired, one stripped, one left, and two that wait. */
  private static DonorParts busy() {
    DonorParts x = new DonorParts();
    x.fixer(3, 1);
    x.fixer(24, 5);
    x.thing(0, 1, 5, 0);
    x.thing(1, 12, 9, 3);
    x.thing(2, 4, 2, 7);
    x.thing(3, 0, 9, 1);
    x.thing(5, 96, 30, 2);
    x.thing(2, 0, 40, 0);
    x.giveUp(3);
    x.pass(2);
    int[] how = {2, 1, 4, 3, 0, 0};
    for (int thing = 0; thing < how.length; thing++) {
      Due.is("how thing " + thing + " is", x.ofThing(thing, 4), how[thing]);
    }
    return x;
  }

  /** 1: "Creates a café without things and fixers." */
  private static void aNewObject() {
    DonorParts x = new DonorParts();
    Due.is("no things", x.count(1), 0);
    Due.is("no fixers", x.count(2), 0);
    busy();
    Due.is("nor by what another object does", x.count(1) + x.count(2), 0);
    Due.is("no thing 0", x.ofThing(0, 0), NO_SUCH);
    Due.is("no fixer 0", x.ofFixer(0, 0), NO_SUCH);
  }

  /** The call is one change, and undo takes back what it changed. */
  private static void isAChange(String what, DonorParts x, Twins.Call call) {
    int[] before = Look.atCafe(x);
    int changes = x.count(9);
    Due.holds(what + " is done", call.on(x) >= 0);
    Due.is(what + " is a change", x.count(9), changes + 1);
    Due.holds(what + " makes a difference", !Arrays.equals(Look.atCafe(x), before));
    Due.is(what + " is undone", x.undo(), changes);
    Due.holds(what + " left nothing", Arrays.equals(Look.atCafe(x), before));
  }

  /** 2: "A thing comes. This is a change.", "Returns its number". */
  private static void aThingComes() {
    DonorParts x = new DonorParts();
    Due.is("the number of the first", x.thing(1, 2, 9, 4), 0);
    Due.is("the number of the second", x.thing(4, 16, 8, 3), 1);
    Due.is("the number of the third", x.thing(1, 0, 7, 0), 2);
    Due.is("three things", x.count(1), 3);
    Due.is("the second is of the kind 4", x.ofThing(1, 0), 4);
    Due.is("the third waits", x.ofThing(2, 4), 0);
    isAChange("thing", x, y -> y.thing(0, 0, 9, 0));
  }

  /** 3: "A fixer comes. This is a change.", "Returns the number". */
  private static void aFixerComes() {
    DonorParts x = new DonorParts();
    Due.is("the number of the first", x.fixer(5, 4), 0);
    Due.is("the number of the second", x.fixer(6, 3), 1);
    Due.is("two fixers", x.count(2), 2);
    Due.is("the second has the care 3", x.ofFixer(1, 1), 3);
    isAChange("fixer", x, y -> y.fixer(1, 0));
    x.thing(0, 0, 9, 0);
    Due.is("who came works", x.pass(1), 1);
  }

  /** 4: "Changes how many parts of a kind the drawer has. This is a change.", "Returns the previous number". */
  private static void drawerChanges() {
    DonorParts x = new DonorParts();
    Due.is("one before", x.drawer(2, 12), 1);
    Due.is("twelve then", x.ofPart(2, 0), 12);
    Due.is("twelve before", x.drawer(2, 3), 12);
    for (int part = 0; part < 8; part++) {
      Due.is("of the part " + part, x.ofPart(part, 0), part == 2 ? 3 : 1);
    }
    isAChange("drawer", x, y -> y.drawer(0, 9));
    x.drawer(0, 0);
    x.fixer(1, 0);
    x.thing(0, 1, 9, 0);
    x.drawer(0, 1);
    Due.is("what is laid into the drawer is exchanged", x.pass(1), 1);
  }

  /** 5: "Gives a thing that waits up: it is stripped. This is a change.", "Returns how many parts go to the drawer". */
  private static void aThingIsGivenUp() {
    DonorParts x = new DonorParts();
    x.thing(4, 32, 9, 7);
    x.thing(4, 0, 9, 0);
    x.drawer(6, 0);
    Due.is("the two good ones go to the drawer", x.giveUp(0), 2);
    Due.is("it is stripped", x.ofThing(0, 4), 3);
    Due.is("the part 4", x.ofPart(4, 0), 2);
    Due.is("not the broken part 5", x.ofPart(5, 0), 1);
    Due.is("the part 6", x.ofPart(6, 0), 1);
    Due.is("the other one waits", x.ofThing(1, 4), 0);
    Due.is("no minute passed", x.count(0), 0);
    isAChange("giveUp", x, y -> y.giveUp(1));
  }

  /** 6: "Lets minutes pass. This is a change.", "Returns how many things are repaired in them". */
  private static void minutesPass() {
    for (int minutes = 1; minutes <= 12; minutes++) {
      DonorParts x = busy();
      DonorParts y = busy();
      int repaired = 0;
      for (int i = 0; i < minutes; i++) {
        repaired += y.pass(1);
      }
      Due.is("repaired in " + minutes, x.pass(minutes), repaired);
      Due.is("as many more", x.count(5), 1 + repaired);
      Due.is("as many minutes more", x.count(0), 2 + minutes);
      Due.holds("all at once is as one by one", Arrays.equals(Look.atCafe(x), Look.atCafe(y)));
    }
    DonorParts z = new DonorParts();
    z.thing(0, 0, 9, 0);
    isAChange("pass", z, y -> y.pass(3));
  }

  /** 7: "0 its kind, 1 its broken parts, as a set, 2 the patience left, 3 the tests that it does not pass, as a set, 4 how it is". */
  private static void aboutAThing() {
    DonorParts x = busy();
    int[][] due = {{0, 0, 5, 0, 2}, {1, 12, 8, 3, 1}, {2, 4, 0, 7, 4}, {3, 0, 9, 1, 3}, {5, 96, 28, 2, 0}, {2, 0, 38, 0, 0}};
    for (int thing = 0; thing < due.length; thing++) {
      for (int what = 0; what < 5; what++) {
        int exchanged = thing == 1 && what == 1 ? 4 : 0;
        Due.is("thing " + thing + ", what " + what, x.ofThing(thing, what), due[thing][what] - exchanged);
      }
    }
  }

  /** 7: "5 its fixer .., 6 how often a test failed, 7 parts that were exchanged, 8 its place among those that wait". */
  private static void aboutAThingAtWork() {
    DonorParts x = busy();
    int[][] due = {{NONE, 0, 1, NONE}, {0, 0, 1, NONE}, {NONE, 0, 0, NONE}, {NONE, 0, 0, NONE}, {NONE, 0, 0, 0},
        {NONE, 0, 0, 1}};
    for (int thing = 0; thing < due.length; thing++) {
      for (int what = 5; what <= 8; what++) {
        Due.is("thing " + thing + ", what " + what, x.ofThing(thing, what), due[thing][what - 5]);
      }
    }
    // minute 2 exchanges the part 3, in minute 3 the sum 5 passes, and in minute 4 the sum 6 fails
    x.pass(3);
    int[] then = {1, 2, 8, 2, 1, 0, 1, 2, NONE};
    for (int what = 0; what <= 8; what++) {
      Due.is("thing 1 then, what " + what, x.ofThing(1, what), then[what]);
    }
  }

  /** 8: "0 the kinds, as a set, 1 the care, 2 the thing that the fixer works on .., 3 things repaired .., 4 .. given up .., 5 minutes of work .., 6 .. next". */
  private static void aboutAFixer() {
    DonorParts x = busy();
    int[][] due = {{3, 1, 1, 1, 0, 2, NONE}, {24, 5, NONE, 0, 0, 0, NONE}};
    for (int fixer = 0; fixer < due.length; fixer++) {
      for (int what = 0; what <= 6; what++) {
        Due.is("fixer " + fixer + ", what " + what, x.ofFixer(fixer, what), due[fixer][what]);
      }
    }
    x.drawer(5, 0);
    x.fixer(32, 0);
    x.thing(0, 0, 9, 0);
    x.pass(1);
    int[][] then = {{3, 1, 1, 1, 0, 3, 6}, {24, 5, NONE, 0, 0, 0, NONE}, {32, 0, NONE, 0, 1, 1, NONE}};
    for (int fixer = 0; fixer < then.length; fixer++) {
      for (int what = 0; what <= 6; what++) {
        Due.is("fixer " + fixer + " then, what " + what, x.ofFixer(fixer, what), then[fixer][what]);
      }
    }
  }

  /** 9: "0 how many the drawer has, 1 broken ones in things that wait or are being repaired, 2 exchanged so far, 3 stripped so far". */
  private static void aboutAPart() {
    DonorParts x = busy();
    int[] drawer = {0, 1, 0, 2, 2, 2, 1, 1};
    int[] broken = {0, 0, 0, 1, 0, 1, 1, 0};
    int[] exchanged = {1, 0, 1, 0, 0, 0, 0, 0};
    int[] stripped = {0, 0, 0, 1, 1, 1, 0, 0};
    for (int part = 0; part < 8; part++) {
      Due.is("in the drawer of " + part, x.ofPart(part, 0), drawer[part]);
      Due.is("broken of " + part, x.ofPart(part, 1), broken[part]);
      Due.is("exchanged of " + part, x.ofPart(part, 2), exchanged[part]);
      Due.is("stripped of " + part, x.ofPart(part, 3), stripped[part]);
    }
  }

  /** 10: "0 minutes so far, 1 things, 2 fixers, .. 8 the length of the pad, 9 how many changes can be undone". */
  private static void numbers() {
    DonorParts x = new DonorParts();
    x.pass(7);
    x.pass(8);
    Due.is("minutes", x.count(0), 15);
    x.thing(0, 0, 9, 0);
    x.thing(0, 0, 9, 0);
    Due.is("things", x.count(1), 2);
    x.fixer(2, 0);
    Due.is("fixers", x.count(2), 1);
    x.put(Due.packed("abc"));
    Due.is("characters", x.count(8), 3);
    Due.is("changes", x.count(9), 5);
    x.giveUp(0);
    Due.is("things, also those that are stripped", x.count(1), 2);
    x.pass(10);
    Due.is("things, also those that left", x.count(1), 2);
    Due.is("minutes", x.count(0), 25);
    x.undo();
    Due.is("minutes that are not taken back", x.count(0), 15);
  }

  /** 10: "3 things that wait, 4 that are being repaired, 5 repaired, 6 stripped, 7 whose owners left". */
  private static void numbersOfThings() {
    DonorParts x = busy();
    int[] due = {2, 6, 2, 2, 1, 1, 1, 1};
    for (int what = 0; what < due.length; what++) {
      Due.is("count(" + what + ")", x.count(what), due[what]);
    }
    x.thing(2, 0, 1, 0);
    x.thing(3, 0, 9, 0);
    x.thing(4, 0, 9, 7);
    x.giveUp(4);
    x.pass(1);
    // thing 6 left, thing 7 is repaired, thing 8 waits, thing 4 is stripped
    int[] then = {3, 9, 2, 2, 1, 2, 2, 2};
    for (int what = 0; what < then.length; what++) {
      Due.is("count(" + what + ") then", x.count(what), then[what]);
    }
  }

  /** 11: "Returns the part of which the most are missing". */
  private static void theMostMissing() {
    DonorParts x = new DonorParts();
    int[] broken = {1, 4, 2, 5, 3};
    for (int kind = 0; kind < broken.length; kind++) {
      for (int i = 0; i < broken[kind]; i++) {
        x.thing(kind, 1 << kind, 99, 0);
      }
    }
    Due.is("four of the part 3", x.scarcest(), 3);
    x.drawer(3, 3);
    Due.is("three of the part 1", x.scarcest(), 1);
    x.drawer(1, 4);
    Due.is("two of the parts 3 and 4", x.scarcest(), 3);
    x.drawer(3, 4);
    Due.is("two of the part 4", x.scarcest(), 4);
    x.drawer(4, 3);
    Due.is("one of the parts 2 and 3", x.scarcest(), 2);
    x.drawer(2, 2);
    Due.is("one of the part 3", x.scarcest(), 3);
    x.drawer(3, 5);
    Due.is("none", x.scarcest(), NONE);
  }

  /** 12: "Tells in how many minutes a thing will be gone, ..": repaired, with what it takes until then. */
  private static void repairedIn() {
    DonorParts x = new DonorParts();
    x.fixer(1, 2);
    x.thing(0, 5, 9, 1);
    x.thing(0, 0, 4, 0);
    // the second one first, then parts 0 and 2 in minutes 1 and 2, and in minute 3 the sum 5
    Due.is("the one with less patience", x.doneIn(1), 1);
    Due.is("the other one", x.doneIn(0), 4);
    x.pass(3);
    Due.is("the last minute", x.doneIn(0), 1);
    Due.is("in which it is repaired", x.pass(1), 1);
    Due.is("so it is", x.doneIn(0), 0);
  }

  /** 12: ".. stripped, ..": by a fixer who finds no part, or for whom tests failed three times. */
  private static void strippedIn() {
    DonorParts x = new DonorParts();
    x.drawer(2, 0);
    x.fixer(1, 0);
    x.thing(0, 6, 9, 0);
    Due.is("in the minute of the missing part", x.doneIn(0), 2);
    x.pass(2);
    Due.is("it is stripped", x.ofThing(0, 4), 3);
    Due.is("so it is", x.doneIn(0), 0);
    DonorParts y = new DonorParts();
    y.drawer(0, 9);
    y.fixer(1, 0);
    y.thing(0, 0, 9, 7);
    Due.is("in the minute of the third failure", y.doneIn(0), 7);
    y.pass(7);
    Due.is("it is stripped", y.ofThing(0, 4), 3);
  }

  /** 12: ".. or left with by its owner." */
  private static void leftIn() {
    DonorParts x = new DonorParts();
    x.fixer(1, 0);
    x.thing(0, 7, 3, 0);
    x.thing(0, 0, 4, 0);
    x.thing(0, 0, 3, 0);
    x.thing(1, 0, 20, 0);
    Due.is("taken behind three minutes", x.doneIn(1), 4);
    Due.is("none in three minutes", x.doneIn(2), 3);
    Due.is("none for this kind", x.doneIn(3), 20);
    x.pass(3);
    Due.is("left", x.ofThing(2, 4), 4);
    Due.is("so it is", x.doneIn(2), 0);
    Due.is("the other one is still there", x.doneIn(3), 17);
  }

  /** 13: "Tells how many things would be repaired in some minutes if a fixer more came now.": as it is if one comes. */
  private static void withAFixerMore() {
    for (int care = 0; care <= 9; care++) {
      for (int kinds = 1; kinds <= 63; kinds += 31) {
        DonorParts x = busy();
        x.thing(0, 2, 9, 1);
        x.thing(4, 16, 9, 6);
        int told = x.withFixer(kinds, care, 40);
        x.fixer(kinds, care);
        Due.is("with " + kinds + " and " + care, told, x.pass(40));
      }
    }
  }

  /** 14: "Finds the care, 0 to 9, by which a fixer more, of all kinds, who came now, would let the most things be repaired ..": as withFixer tells. */
  private static void theBestCare() {
    for (int minutes = 1; minutes <= 40; minutes++) {
      DonorParts x = busy();
      x.thing(0, 2, 9, 1);
      x.thing(4, 16, 9, 6);
      int best = 0;
      for (int care = 1; care <= 9; care++) {
        best = x.withFixer(63, care, minutes) > x.withFixer(63, best, minutes) ? care : best;
      }
      Due.is("the best care for " + minutes, x.bestCare(minutes), best);
    }
  }

  /** 15: "Appends characters to the pad.", "Returns the length of the pad then". */
  private static void charactersAreAppended() {
    DonorParts x = new DonorParts();
    Due.is("one", x.put('d'), 1);
    Due.is("two more", x.put(Due.packed("6=")), 3);
    Due.is("five more", x.put(Due.packed("7;d6=")), 8);
    Due.is("two more", x.put(Due.packed("58")), 10);
    Due.is("the text is d6=7;d6=58", x.carryOut(), 2);
    Due.is("the last order", x.ofPart(6, 0), 58);
    x.undo();
    Due.write(x, "d6=7");
    Due.is("what is put behind it", x.put('9'), 5);
    Due.is("one order", x.carryOut(), 1);
    Due.is("79", x.ofPart(6, 0), 79);
  }

  /** 16: "Empties the pad, and returns the length that it had." */
  private static void padIsEmptied() {
    DonorParts x = new DonorParts();
    Due.write(x, "t1;t2;t3");
    Due.is("eight", x.wipe(), 8);
    Due.is("none", x.count(8), 0);
    Due.is("an empty text", x.fault(), 0);
    Due.write(x, "t4");
    Due.is("one order", x.carryOut(), 1);
    Due.is("four minutes", x.count(0), 4);
  }

  /** 17: "Returns the fault of the pad, NONE if there is none." */
  private static void faultOfThePad() {
    DonorParts x = new DonorParts();
    String text = "t9;d2=x";
    int[] due = {1, NONE, 3, 4, 5, 6, 6};
    for (int i = 0; i < text.length(); i++) {
      x.put(text.charAt(i));
      Due.is("behind " + text.charAt(i), x.fault(), due[i]);
    }
  }

  /** 18: "Carries the orders of the pad out, one after the other, up to the first one that returns an error, and empties the pad. This is a change". */
  private static void ordersAreCarriedOut() {
    DonorParts x = busy();
    x.undo();
    Due.write(x, "+0!9?2;f4^3;d5=9;t1;+0:3!9;d0=5");
    isAChange("carryOut", x, DonorParts::carryOut);
    Due.is("the pad is empty", x.count(8), 0);
    DonorParts y = busy();
    Due.write(y, "d0=5;+0!9;+0:3!9;d0=6;t1");
    Due.is("two up to the error", y.carryOut(), 2);
    Due.is("the drawer", y.ofPart(0, 0), 5);
    Due.is("a thing more", y.count(1), 7);
    Due.is("no minute more", y.count(0), 2);
  }

  /** 19: "Undoes the latest change: everything except the pad, the slots and the history is as it was before it." */
  private static void latestChangeIsUndone() {
    DonorParts x = busy();
    int[] before = Look.atCafe(x);
    x.pass(30);
    x.save(1);
    Due.write(x, "t1");
    Due.is("five are left", x.undo(), 5);
    Due.holds("all is as before", Arrays.equals(Look.atCafe(x), before));
    Due.is("but the pad", x.wipe(), 2);
    Due.is("but the slots", x.restore(1), 6);
    Due.is("32 minutes were saved", x.count(0), 32);
    x.undo();
    Due.is("the change before it", x.undo(), 4);
    Due.is("is that of two minutes", x.count(0), 0);
  }

  /** 20: "Saves everything except the pad, the history and the slots in a slot", "Returns how many things there are". */
  private static void everythingIsSaved() {
    DonorParts x = busy();
    int[] before = Look.atCafe(x);
    Due.is("six things", x.save(0), 6);
    Due.holds("nothing is different by it", Arrays.equals(Look.atCafe(x), before));
    Due.is("it is no change", x.count(9), 6);
    for (int i = 0; i < 6; i++) {
      x.undo();
    }
    Due.is("no more", x.undo(), NOT_POSSIBLE);
    Due.is("six things then", x.restore(0), 6);
    Due.is("the history is not what it was", x.count(9), 1);
    DonorParts y = busy();
    y.save(0);
    y.pass(40);
    y.thing(0, 0, 9, 0);
    y.restore(0);
    Due.holds("everything is restored", Arrays.equals(Look.atCafe(y), before));
    Due.is("and goes on", y.pass(20), busy().pass(20));
  }

  /** 21: "Restores what was saved last in a slot, which keeps it. This is a change.", "Returns how many things there are then". */
  private static void whatWasSavedLast() {
    DonorParts x = new DonorParts();
    x.save(0);
    x.thing(0, 0, 9, 0);
    x.save(1);
    x.thing(0, 0, 9, 0);
    x.save(0);
    x.thing(0, 0, 9, 0);
    Due.is("two in the slot 0", x.restore(0), 2);
    Due.is("two", x.count(1), 2);
    Due.is("one in the slot 1", x.restore(1), 1);
    Due.is("one", x.count(1), 1);
    Due.is("still two in the slot 0", x.restore(0), 2);
    Due.is("one in the slot 1 again", x.undo(), 5);
    isAChange("restore", x, y -> y.restore(0));
  }
}
