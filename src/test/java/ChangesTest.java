/** Promises 1 to 6: the new object and the changes. */
public final class ChangesTest {
  private static final int NO_SUCH = -1, BAD_VALUE = -2, TOO_MANY = -4, NOT_POSSIBLE = -5, NONE = -6;

  public static void main(String[] args) {
    constants();
    newObject();
    things();
    thingsAreRefused();
    thirtyThings();
    fixers();
    drawers();
    givingUp();
    passIsRefused();
    mostMinutes();
    leastPatienceFirst();
    partsAreExchangedFromTheLowest();
    aPartThatIsMissing();
    testsByRule();
    threeFailedTests();
    failuresNeedNotFollowEachOther();
    nothingToDo();
    ownersLeave();
    fixersWorkInTheirOrder();
    strippedPartsAreThereAtOnce();
    fullDrawer();
    kindsOfFixers();
    Due.end();
  }

  private static void constants() {
    Due.is("NO_SUCH", DonorParts.NO_SUCH, -1);
    Due.is("BAD_VALUE", DonorParts.BAD_VALUE, -2);
    Due.is("BAD_TEXT", DonorParts.BAD_TEXT, -3);
    Due.is("TOO_MANY", DonorParts.TOO_MANY, -4);
    Due.is("NOT_POSSIBLE", DonorParts.NOT_POSSIBLE, -5);
    Due.is("NONE", DonorParts.NONE, -6);
  }

  private static void newObject() {
    DonorParts x = new DonorParts();
    for (int what = 0; what <= 9; what++) {
      Due.is("1: count(" + what + ") of a new object", x.count(what), 0);
    }
    for (int part = 0; part < 8; part++) {
      Due.is("1: one part in the drawer", x.ofPart(part, 0), 1);
      for (int what = 1; what <= 3; what++) {
        Due.is("1: ofPart of a new object", x.ofPart(part, what), 0);
      }
    }
    Due.is("1: no thing", x.ofThing(0, 0), NO_SUCH);
    Due.is("1: no fixer", x.ofFixer(0, 0), NO_SUCH);
    Due.is("1: nothing is missing", x.scarcest(), NONE);
    Due.is("1: empty pad", x.fault(), 0);
    Due.is("1: empty slot 0", x.restore(0), NOT_POSSIBLE);
    Due.is("1: empty slot 1", x.restore(1), NOT_POSSIBLE);
    Due.is("1: no history", x.undo(), NOT_POSSIBLE);
    DonorParts y = new DonorParts();
    x.drawer(0, 50);
    x.fixer(1, 1);
    Due.is("1: objects share nothing", y.ofPart(0, 0), 1);
    Due.is("1: objects share no fixers", y.count(2), 0);
  }

  private static void things() {
    DonorParts x = new DonorParts();
    Due.is("2: first", x.thing(5, 224, 99, 7), 0);
    Due.is("2: second", x.thing(0, 0, 1, 0), 1);
    int[] due = {5, 224, 99, 7, 0, NONE, 0, 0, 1};
    for (int what = 0; what < due.length; what++) {
      Due.is("2: ofThing(0, " + what + ")", x.ofThing(0, what), due[what]);
    }
    Due.is("2: it is a change", x.count(9), 2);
    Due.is("2: both wait", x.count(3), 2);
    for (int kind = 0; kind < 6; kind++) {
      for (int part = 0; part < 8; part++) {
        DonorParts y = new DonorParts();
        boolean own = part >= kind && part <= kind + 2;
        Due.is("2: part " + part + " of the kind " + kind, y.thing(kind, 1 << part, 5, 0), own ? 0 : BAD_VALUE);
      }
    }
  }

  private static void thingsAreRefused() {
    DonorParts x = new DonorParts();
    Due.is("2: kind 6", x.thing(6, 0, 1, 0), NO_SUCH);
    Due.is("2: kind -1", x.thing(-1, 0, 1, 0), NO_SUCH);
    Due.is("2: kind before value", x.thing(6, -1, 0, 9), NO_SUCH);
    Due.is("2: a far kind", x.thing(Integer.MAX_VALUE, 0, 1, 0), NO_SUCH);
    Due.is("2: the least kind", x.thing(Integer.MIN_VALUE, 0, 1, 0), NO_SUCH);
    Due.is("2: broken -1", x.thing(0, -1, 1, 0), BAD_VALUE);
    Due.is("2: broken 256", x.thing(5, 256, 1, 0), BAD_VALUE);
    Due.is("2: broken of another kind", x.thing(1, 1, 1, 0), BAD_VALUE);
    Due.is("2: broken, one of it not its own", x.thing(1, 15, 1, 0), BAD_VALUE);
    Due.is("2: broken, the sign bit", x.thing(0, Integer.MIN_VALUE, 1, 0), BAD_VALUE);
    Due.is("2: patience 0", x.thing(0, 0, 0, 0), BAD_VALUE);
    Due.is("2: patience 100", x.thing(0, 0, 100, 0), BAD_VALUE);
    Due.is("2: patience -5", x.thing(0, 0, -5, 0), BAD_VALUE);
    Due.is("2: tests -1", x.thing(0, 0, 1, -1), BAD_VALUE);
    Due.is("2: tests 8", x.thing(0, 0, 1, 8), BAD_VALUE);
    Due.is("2: nothing came", x.count(1), 0);
    Due.is("2: nothing recorded", x.count(9), 0);
  }

  private static void thirtyThings() {
    DonorParts x = new DonorParts();
    for (int i = 0; i < 30; i++) {
      Due.is("2: thing " + i, x.thing(i % 6, 0, 1 + i, 0), i);
    }
    Due.is("2: one too many", x.thing(0, 0, 1, 0), TOO_MANY);
    Due.is("2: value before too many", x.thing(0, 8, 1, 0), BAD_VALUE);
    Due.is("2: kind before too many", x.thing(6, 0, 1, 0), NO_SUCH);
    Due.is("2: thirty", x.count(1), 30);
    Due.is("2: the last one", x.ofThing(29, 2), 30);
    Due.is("2: none behind it", x.ofThing(30, 2), NO_SUCH);
    x.pass(99);
    Due.is("2: all left", x.count(7), 30);
    Due.is("2: those who left count too", x.thing(0, 0, 1, 0), TOO_MANY);
  }

  private static void fixers() {
    DonorParts x = new DonorParts();
    Due.is("3: kinds 0", x.fixer(0, 0), BAD_VALUE);
    Due.is("3: kinds 64", x.fixer(64, 0), BAD_VALUE);
    Due.is("3: kinds -1", x.fixer(-1, 0), BAD_VALUE);
    Due.is("3: care -1", x.fixer(1, -1), BAD_VALUE);
    Due.is("3: care 10", x.fixer(1, 10), BAD_VALUE);
    Due.is("3: nothing recorded", x.count(9), 0);
    Due.is("3: first", x.fixer(1, 0), 0);
    Due.is("3: second", x.fixer(63, 9), 1);
    int[] due = {63, 9, NONE, 0, 0, 0, NONE};
    for (int what = 0; what < due.length; what++) {
      Due.is("3: ofFixer(1, " + what + ")", x.ofFixer(1, what), due[what]);
    }
    for (int i = 2; i < 5; i++) {
      Due.is("3: fixer " + i, x.fixer(i, i), i);
    }
    Due.is("3: one too many", x.fixer(1, 0), TOO_MANY);
    Due.is("3: value before too many", x.fixer(1, 10), BAD_VALUE);
    Due.is("3: five", x.count(2), 5);
    Due.is("3: it is a change", x.count(9), 5);
  }

  private static void drawers() {
    DonorParts x = new DonorParts();
    Due.is("4: part 8", x.drawer(8, 0), NO_SUCH);
    Due.is("4: part -1", x.drawer(-1, 0), NO_SUCH);
    Due.is("4: part before value", x.drawer(8, 100), NO_SUCH);
    Due.is("4: many 100", x.drawer(0, 100), BAD_VALUE);
    Due.is("4: many -1", x.drawer(0, -1), BAD_VALUE);
    Due.is("4: nothing recorded", x.count(9), 0);
    Due.is("4: one at first", x.drawer(7, 99), 1);
    Due.is("4: the previous number", x.drawer(7, 0), 99);
    Due.is("4: none", x.ofPart(7, 0), 0);
    Due.is("4: a change, also if nothing is different", x.drawer(7, 0), 0);
    Due.is("4: three changes", x.count(9), 3);
    Due.is("4: the others stay", x.ofPart(6, 0), 1);
  }

  private static void givingUp() {
    DonorParts x = new DonorParts();
    Due.is("5: no thing", x.giveUp(0), NO_SUCH);
    Due.is("5: thing -1", x.giveUp(-1), NO_SUCH);
    x.thing(3, 16, 9, 5);
    x.thing(3, 56, 9, 0);
    Due.is("5: two good parts", x.giveUp(0), 2);
    Due.is("5: stripped", x.ofThing(0, 4), 3);
    Due.is("5: no place", x.ofThing(0, 8), NONE);
    Due.is("5: the broken one stays", x.ofThing(0, 1), 16);
    Due.is("5: part 3", x.ofPart(3, 0), 2);
    Due.is("5: part 4", x.ofPart(4, 0), 1);
    Due.is("5: part 5", x.ofPart(5, 0), 2);
    Due.is("5: part 3 stripped", x.ofPart(3, 3), 1);
    Due.is("5: part 4 not stripped", x.ofPart(4, 3), 0);
    Due.is("5: a second time", x.giveUp(0), NOT_POSSIBLE);
    Due.is("5: no good part", x.giveUp(1), 0);
    Due.is("5: changes", x.count(9), 4);
    Due.is("5: two stripped", x.count(6), 2);
    DonorParts y = new DonorParts();
    y.fixer(1, 0);
    y.thing(0, 0, 9, 7);
    y.thing(1, 0, 1, 0);
    y.pass(1);
    Due.is("5: one that is being repaired", y.giveUp(0), NOT_POSSIBLE);
    Due.is("5: one whose owner left", y.giveUp(1), NOT_POSSIBLE);
    DonorParts z = new DonorParts();
    z.fixer(1, 0);
    z.thing(0, 0, 9, 0);
    z.thing(1, 0, 9, 0);
    z.pass(1);
    Due.is("5: one that is repaired", z.giveUp(0), NOT_POSSIBLE);
    Due.is("5: by hand", z.giveUp(1), 3);
    Due.is("5: by hand is by no fixer", z.ofFixer(0, 4), 0);
  }

  private static void passIsRefused() {
    DonorParts x = new DonorParts();
    Due.is("6: minutes 0", x.pass(0), BAD_VALUE);
    Due.is("6: minutes 100", x.pass(100), BAD_VALUE);
    Due.is("6: minutes -1", x.pass(-1), BAD_VALUE);
    Due.is("6: minutes far", x.pass(Integer.MAX_VALUE), BAD_VALUE);
    Due.is("6: nothing recorded", x.count(9), 0);
    Due.is("6: no minute", x.count(0), 0);
    Due.is("6: one", x.pass(1), 0);
    Due.is("6: 99", x.pass(99), 0);
    Due.is("6: a hundred", x.count(0), 100);
    Due.is("6: two changes", x.count(9), 2);
  }

  private static void mostMinutes() {
    DonorParts x = new DonorParts();
    for (int i = 0; i < 100; i++) {
      x.pass(99);
    }
    Due.is("6: 9900", x.count(0), 9900);
    x.pass(98);
    x.fixer(63, 1);
    x.thing(0, 0, 9, 1);
    Due.is("6: one more than there can be", x.pass(2), NOT_POSSIBLE);
    Due.is("6: value before not possible", x.pass(100), BAD_VALUE);
    // minute 9998 fails, 9999 exchanges, 10000 passes
    Due.is("6: what if goes on behind the bound", x.doneIn(0), 3);
    Due.is("6: what if goes on behind the bound", x.withFixer(63, 0, 300), 1);
    Due.is("6: the last minute", x.pass(1), 0);
    Due.is("6: 9999", x.count(0), 9999);
    Due.is("6: none more", x.pass(1), NOT_POSSIBLE);
    Due.is("6: what if still goes on", x.doneIn(0), 2);
    Due.is("6: what if still goes on", x.bestCare(5), 0);
  }

  private static void leastPatienceFirst() {
    DonorParts x = new DonorParts();
    x.thing(0, 0, 7, 0);
    x.thing(1, 0, 5, 0);
    x.thing(2, 0, 5, 0);
    x.thing(3, 0, 6, 0);
    x.fixer(63, 1);
    int[] order = {1, 2, 3, 0};
    for (int thing : order) {
      Due.is("6: next is " + thing, x.ofFixer(0, 6), thing);
      Due.is("6: repaired in one minute", x.pass(1), 1);
      Due.is("6: gone", x.ofThing(thing, 4), 2);
    }
    Due.is("6: patience stands while one repairs", x.ofThing(0, 2), 4);
    Due.is("6: four", x.ofFixer(0, 3), 4);
    Due.is("6: four minutes", x.ofFixer(0, 5), 4);
    x.pass(5);
    Due.is("6: idle minutes are no work", x.ofFixer(0, 5), 4);
  }

  private static void partsAreExchangedFromTheLowest() {
    DonorParts x = new DonorParts();
    x.fixer(4, 0);
    x.thing(2, 28, 9, 0);
    x.pass(1);
    Due.is("6: part 2 first", x.ofThing(0, 1), 24);
    Due.is("6: out of the drawer", x.ofPart(2, 0), 0);
    Due.is("6: exchanged", x.ofPart(2, 2), 1);
    Due.is("6: still in repair", x.ofThing(0, 4), 1);
    x.pass(1);
    Due.is("6: then part 3", x.ofThing(0, 1), 16);
    Due.is("6: two exchanged", x.ofThing(0, 7), 2);
    Due.is("6: repaired at the end of the third minute", x.pass(1), 1);
    Due.is("6: none broken", x.ofThing(0, 1), 0);
    Due.is("6: three exchanged", x.ofThing(0, 7), 3);
    Due.is("6: repaired", x.ofThing(0, 4), 2);
    Due.is("6: the fixer is free", x.ofFixer(0, 2), NONE);
    Due.is("6: no fixer any more", x.ofThing(0, 5), NONE);
    Due.is("6: the patience stood", x.ofThing(0, 2), 9);
  }

  private static void aPartThatIsMissing() {
    DonorParts x = new DonorParts();
    x.drawer(1, 0);
    x.fixer(1, 0);
    x.thing(0, 3, 9, 7);
    x.pass(1);
    Due.is("6: part 0 is exchanged", x.ofThing(0, 7), 1);
    Due.is("6: none is repaired", x.pass(1), 0);
    Due.is("6: stripped", x.ofThing(0, 4), 3);
    Due.is("6: part 0 is back", x.ofPart(0, 0), 1);
    Due.is("6: part 1 is still missing", x.ofPart(1, 0), 0);
    Due.is("6: part 2 comes", x.ofPart(2, 0), 2);
    Due.is("6: given up by the fixer", x.ofFixer(0, 4), 1);
    Due.is("6: the minute was work", x.ofFixer(0, 5), 2);
    Due.is("6: the fixer is free", x.ofFixer(0, 2), NONE);
    Due.is("6: no fixer any more", x.ofThing(0, 5), NONE);
    Due.is("6: not repaired", x.ofFixer(0, 3), 0);
  }

  /** The number of the minute, the care and the kind, added: left over by 3. */
  private static void testsByRule() {
    for (int minute = 0; minute < 4; minute++) {
      for (int care = 0; care < 10; care++) {
        for (int kind = 0; kind < 6; kind++) {
          DonorParts x = new DonorParts();
          if (minute > 0) {
            x.pass(minute);
          }
          x.fixer(63, care);
          x.thing(kind, 0, 9, 6);
          x.pass(1);
          boolean fails = (minute + care + kind) % 3 == 0;
          String which = "6: test at " + minute + ", care " + care + ", kind " + kind;
          Due.is(which + ", tests left", x.ofThing(0, 3), fails ? 6 : 4);
          Due.is(which + ", broken", x.ofThing(0, 1), fails ? 1 << kind : 0);
          Due.is(which + ", failures", x.ofThing(0, 6), fails ? 1 : 0);
        }
      }
    }
  }

  private static void threeFailedTests() {
    DonorParts x = new DonorParts();
    x.drawer(0, 5);
    x.fixer(1, 0);
    x.thing(0, 0, 9, 7);
    // minute 0 fails, 1 exchanges, 2 passes, 3 fails, 4 exchanges, 5 passes, 6 fails for the third time
    x.pass(6);
    Due.is("6: two failures", x.ofThing(0, 6), 2);
    Due.is("6: one test left", x.ofThing(0, 3), 4);
    Due.is("6: still there", x.ofThing(0, 4), 1);
    Due.is("6: the third failure", x.pass(1), 0);
    Due.is("6: three failures", x.ofThing(0, 6), 3);
    Due.is("6: given up", x.ofThing(0, 4), 3);
    Due.is("6: broken by the test", x.ofThing(0, 1), 1);
    Due.is("6: two exchanged", x.ofPart(0, 0), 3);
    Due.is("6: the broken one is not stripped", x.ofPart(0, 3), 0);
    Due.is("6: the next one is", x.ofPart(1, 3), 1);
    Due.is("6: given up by the fixer", x.ofFixer(0, 4), 1);
    Due.is("6: seven minutes", x.ofFixer(0, 5), 7);
  }

  private static void failuresNeedNotFollowEachOther() {
    DonorParts x = new DonorParts();
    x.drawer(0, 5);
    x.fixer(1, 0);
    x.thing(0, 0, 9, 3);
    // fails, exchange, passes, fails, exchange, passes: repaired with two failures
    Due.is("6: in five minutes not yet", x.pass(5), 0);
    Due.is("6: with the sixth", x.pass(1), 1);
    Due.is("6: two failures", x.ofThing(0, 6), 2);
    Due.is("6: two parts", x.ofThing(0, 7), 2);
  }

  private static void nothingToDo() {
    DonorParts x = new DonorParts();
    x.fixer(63, 0);
    x.thing(0, 0, 1, 0);
    Due.is("6: repaired at the end of the first minute", x.pass(1), 1);
    Due.is("6: it took a minute of work", x.ofFixer(0, 5), 1);
    DonorParts y = new DonorParts();
    y.fixer(63, 0);
    y.thing(0, 1, 5, 0);
    Due.is("6: the exchange of the last part repairs it", y.pass(1), 1);
    DonorParts z = new DonorParts();
    z.fixer(63, 1);
    z.thing(0, 1, 5, 1);
    Due.is("6: a test comes in the minute behind the exchange", z.pass(1), 0);
    Due.is("6: and repairs it", z.pass(1), 1);
  }

  private static void ownersLeave() {
    DonorParts x = new DonorParts();
    x.fixer(1, 0);
    x.thing(0, 7, 1, 7);
    x.thing(1, 0, 1, 0);
    x.thing(1, 2, 3, 0);
    Due.is("6: nothing repaired", x.pass(1), 0);
    Due.is("6: taken in time", x.ofThing(0, 4), 1);
    Due.is("6: taken, its patience stands", x.ofThing(0, 2), 1);
    Due.is("6: left", x.ofThing(1, 4), 4);
    Due.is("6: no patience", x.ofThing(1, 2), 0);
    Due.is("6: two minutes more", x.ofThing(2, 2), 2);
    x.pass(2);
    Due.is("6: left too", x.ofThing(2, 4), 4);
    Due.is("6: its part stays broken", x.ofThing(2, 1), 2);
    Due.is("6: what left is not stripped", x.ofPart(3, 3), 0);
    Due.is("6: what left misses no part", x.ofPart(1, 1), 0);
    Due.is("6: two left", x.count(7), 2);
  }

  private static void fixersWorkInTheirOrder() {
    DonorParts x = new DonorParts();
    x.fixer(1, 0);
    x.fixer(1, 0);
    x.thing(0, 1, 9, 0);
    x.thing(0, 1, 8, 0);
    Due.is("6: fixer 0 gets the part", x.pass(1), 1);
    Due.is("6: thing 1 was taken first", x.ofThing(1, 4), 2);
    Due.is("6: thing 0 was given up", x.ofThing(0, 4), 3);
    Due.is("6: by fixer 1", x.ofFixer(1, 4), 1);
    Due.is("6: one repaired by fixer 0", x.ofFixer(0, 3), 1);
    DonorParts y = new DonorParts();
    y.fixer(1, 0);
    y.fixer(1, 0);
    y.thing(0, 7, 9, 0);
    y.thing(0, 7, 9, 0);
    y.pass(1);
    Due.is("6: thing 0 to fixer 0", y.ofThing(0, 5), 0);
    Due.is("6: thing 1 was given up", y.ofThing(1, 4), 3);
    Due.is("6: fixer 0 works on thing 0", y.ofFixer(0, 2), 0);
  }

  private static void strippedPartsAreThereAtOnce() {
    DonorParts x = new DonorParts();
    x.drawer(0, 0);
    x.drawer(1, 0);
    x.fixer(1, 0);
    x.fixer(2, 0);
    x.thing(0, 1, 9, 0);
    x.thing(1, 2, 9, 0);
    Due.is("6: fixer 1 uses what fixer 0 strips", x.pass(1), 1);
    Due.is("6: given up", x.ofThing(0, 4), 3);
    Due.is("6: repaired with its part", x.ofThing(1, 4), 2);
    Due.is("6: no part left", x.ofPart(1, 0), 0);
    DonorParts y = new DonorParts();
    y.drawer(0, 0);
    y.drawer(1, 0);
    y.fixer(2, 0);
    y.fixer(1, 0);
    y.thing(0, 1, 9, 0);
    y.thing(1, 2, 9, 0);
    Due.is("6: fixer 0 comes too early for it", y.pass(1), 0);
    Due.is("6: two stripped", y.count(6), 2);
  }

  private static void fullDrawer() {
    DonorParts x = new DonorParts();
    x.drawer(0, 99);
    x.drawer(1, 98);
    x.thing(0, 0, 9, 0);
    x.thing(0, 0, 9, 0);
    Due.is("5: no room for part 0", x.giveUp(0), 2);
    Due.is("5: no room for part 1 either", x.giveUp(1), 1);
    Due.is("5: no more than 99", x.ofPart(0, 0), 99);
    Due.is("5: up to 99", x.ofPart(1, 0), 99);
    Due.is("5: stripped nevertheless", x.ofPart(0, 3), 2);
    Due.is("5: room for part 2", x.ofPart(2, 0), 3);
  }

  private static void kindsOfFixers() {
    for (int kind = 0; kind < 6; kind++) {
      DonorParts x = new DonorParts();
      x.fixer(63 & ~(1 << kind), 0);
      x.thing(kind, 0, 3, 0);
      Due.is("6: not for this fixer", x.pass(1), 0);
      Due.is("6: still waits", x.ofThing(0, 4), 0);
      x.fixer(1 << kind, 0);
      Due.is("6: for this one", x.pass(1), 1);
      Due.is("6: done by it", x.ofFixer(1, 3), 1);
    }
  }
}
