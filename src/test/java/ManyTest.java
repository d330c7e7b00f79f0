import java.util.Arrays;

/**
 * The numbers that the document lets grow, where they are large: what is counted "so far" over thirty things, five
 * fixers at work at once, things with high numbers. The sentence stands above each test.
 */
public final class ManyTest {
  private static final int NONE = -6, THINGS = 30, FIXERS = 5;

  public static void main(String[] args) {
    repairedOneByOne();
    givenUpOneByOne();
    exchangedOneByOne();
    manyMinutesOfWork();
    mostExchangedForAThing();
    fiveAtWork();
    allStripped();
    allLeft();
    aLongQueue();
    manyMissing();
    manyRepairedInWhatIf();
    manyMinutesInWhatIf();
    mostMinutesInWhatIf();
    aCrowdIsUndone();
    aCrowdIsRestored();
    aCrowdInWhatIf();
    Due.end();
  }

  private static DonorParts withThings(int many, int kind, int broken) {
    DonorParts x = new DonorParts();
    for (int i = 0; i < many; i++) {
      Due.is("the number", x.thing(kind, broken, 99, 0), i);
    }
    return x;
  }

  /** 8: "3 things repaired so far", "6 the thing that the fixer would take next"; 10: "5 repaired"; 6: "how many things are repaired in them". */
  private static void repairedOneByOne() {
    DonorParts x = withThings(THINGS, 3, 0);
    x.fixer(8, 2);
    for (int minute = 0; minute <= THINGS; minute++) {
      Due.is("repaired by the fixer", x.ofFixer(0, 3), minute);
      Due.is("minutes of work", x.ofFixer(0, 5), minute);
      Due.is("the next one", x.ofFixer(0, 6), minute < THINGS ? minute : NONE);
      Due.is("repaired", x.count(5), minute);
      Due.is("that wait", x.count(3), THINGS - minute);
      Due.is("repaired in a minute", x.pass(1), minute < THINGS ? 1 : 0);
    }
    for (int minutes = 1; minutes <= 40; minutes++) {
      DonorParts y = withThings(THINGS, 3, 0);
      y.fixer(8, 2);
      Due.is("repaired in " + minutes, y.pass(minutes), Math.min(minutes, THINGS));
    }
  }

  /** 8: "4 things given up by the fixer so far"; 9: "3 stripped so far"; 10: "6 stripped". */
  private static void givenUpOneByOne() {
    DonorParts x = withThings(THINGS, 5, 32);
    x.drawer(5, 0);
    x.fixer(32, 0);
    for (int minute = 0; minute <= THINGS; minute++) {
      Due.is("given up by the fixer", x.ofFixer(0, 4), minute);
      Due.is("minutes of work", x.ofFixer(0, 5), minute);
      Due.is("stripped of the part 5", x.ofPart(5, 3), 0);
      Due.is("stripped of the part 6", x.ofPart(6, 3), minute);
      Due.is("stripped of the part 7", x.ofPart(7, 3), minute);
      Due.is("in the drawer of the part 6", x.ofPart(6, 0), 1 + minute);
      Due.is("stripped things", x.count(6), minute);
      Due.is("broken of the part 5", x.ofPart(5, 1), THINGS - minute);
      Due.is("none is repaired", x.pass(1), 0);
    }
  }

  /** 9: "1 broken ones in things that wait or are being repaired, 2 exchanged so far"; 8: "2 the thing that the fixer works on". */
  private static void exchangedOneByOne() {
    for (int minutes = 1; minutes <= 3 * THINGS; minutes++) {
      DonorParts x = withThings(THINGS, 1, 14);
      for (int part = 1; part <= 3; part++) {
        x.drawer(part, 90 + part);
      }
      x.fixer(2, 0);
      Due.is("repaired in " + minutes, x.pass(minutes), minutes / 3);
      Due.is("minutes of work", x.ofFixer(0, 5), minutes);
      Due.is("in work behind " + minutes, x.ofFixer(0, 2), minutes % 3 == 0 ? NONE : minutes / 3);
      for (int part = 1; part <= 3; part++) {
        int exchanged = (minutes + 3 - part) / 3;
        Due.is("exchanged of " + part, x.ofPart(part, 2), exchanged);
        Due.is("broken of " + part, x.ofPart(part, 1), THINGS - exchanged);
        Due.is("in the drawer of " + part, x.ofPart(part, 0), 90 + part - exchanged);
      }
    }
  }

  /** 8: "5 minutes of work so far"; 10: "0 minutes so far". */
  private static void manyMinutesOfWork() {
    DonorParts x = new DonorParts();
    x.fixer(1, 1);
    for (int i = 0; i < THINGS; i++) {
      for (int part = 0; part < 3; part++) {
        x.drawer(part, 1);
      }
      x.thing(0, 7, 9, 3);
      // three parts in three minutes, the sums 6 i + 4 and 6 i + 5 in the next two, and a minute without work
      Due.is("repaired", x.pass(6), 1);
      Due.is("minutes of work", x.ofFixer(0, 5), 5 * i + 5);
      Due.is("repaired by the fixer", x.ofFixer(0, 3), i + 1);
      Due.is("minutes", x.count(0), 6 * i + 6);
    }
  }

  /** 7: "6 how often a test failed, 7 parts that were exchanged": five at most, since the third failure ends it. */
  private static void mostExchangedForAThing() {
    DonorParts x = new DonorParts();
    x.drawer(2, 9);
    x.fixer(4, 2);
    x.thing(2, 28, 9, 7);
    // parts in minutes 0 to 2; the sum 7 passes, 8 passes, 9 fails, then the part 2, then the sum 11 passes
    int[] failed = {0, 0, 0, 0, 0, 0, 1, 1, 1};
    int[] exchanged = {0, 1, 2, 3, 3, 3, 3, 4, 4};
    for (int minute = 0; minute <= 8; minute++) {
      Due.is("failed behind " + minute, x.ofThing(0, 6), failed[minute]);
      Due.is("exchanged behind " + minute, x.ofThing(0, 7), exchanged[minute]);
      Due.is("repaired in the last one", x.pass(1), minute == 7 ? 1 : 0);
    }
    DonorParts y = new DonorParts();
    y.drawer(2, 9);
    y.fixer(4, 1);
    y.thing(2, 28, 9, 7);
    // the sum 6 fails in minute 3, then the part 2; 8 passes, 9 fails, the part 2, 11 passes, 12 fails: given up
    int[] failures = {0, 0, 0, 0, 1, 1, 1, 2, 2, 2, 3, 3};
    int[] parts = {0, 1, 2, 3, 3, 4, 4, 4, 5, 5, 5, 5};
    for (int minute = 0; minute < failures.length; minute++) {
      Due.is("failed behind " + minute + ", care 1", y.ofThing(0, 6), failures[minute]);
      Due.is("exchanged behind " + minute + ", care 1", y.ofThing(0, 7), parts[minute]);
      Due.is("not repaired, care 1", y.pass(1), 0);
    }
    Due.is("given up", y.ofFixer(0, 4), 1);
  }

  /** 10: "4 that are being repaired"; 8: "2 the thing that the fixer works on"; 7: "5 its fixer". */
  private static void fiveAtWork() {
    for (int fixers = 1; fixers <= FIXERS; fixers++) {
      DonorParts x = new DonorParts();
      for (int i = 0; i < THINGS; i++) {
        x.thing(0, 7, 99 - i, 0);
      }
      for (int part = 0; part < 3; part++) {
        x.drawer(part, 99);
      }
      for (int i = 0; i < fixers; i++) {
        x.fixer(1, i);
        Due.is("would take the last one", x.ofFixer(i, 6), 29);
      }
      Due.is("none is repaired", x.pass(1), 0);
      atWork(x, fixers, 29);
      Due.is("all of them are repaired", x.pass(2), fixers);
      Due.is("none is at work", x.count(4), 0);
      x.pass(1);
      atWork(x, fixers, 29 - fixers);
      Due.is("that wait", x.count(3), THINGS - 2 * fixers);
    }
  }

  private static void atWork(DonorParts x, int fixers, int first) {
    Due.is("are being repaired", x.count(4), fixers);
    for (int i = 0; i < fixers; i++) {
      Due.is("the thing of the fixer " + i, x.ofFixer(i, 2), first - i);
      Due.is("the fixer of its thing", x.ofThing(first - i, 5), i);
      Due.is("the next one of the fixer " + i, x.ofFixer(i, 6), first - fixers);
    }
  }

  /** 5: "Returns how many parts go to the drawer"; 9: "3 stripped so far"; 10: "6 stripped". */
  private static void allStripped() {
    DonorParts x = withThings(THINGS, 2, 8);
    for (int i = 0; i < THINGS; i++) {
      Due.is("two parts", x.giveUp(THINGS - 1 - i), 2);
      Due.is("stripped", x.count(6), i + 1);
      Due.is("that wait", x.count(3), THINGS - 1 - i);
      Due.is("in the drawer", x.ofPart(2, 0), i + 2);
      Due.is("parts stripped", x.ofPart(2, 3) + x.ofPart(3, 3) + x.ofPart(4, 3), 2 * i + 2);
    }
    Due.is("things", x.count(1), THINGS);
  }

  /** 10: "7 whose owners left": in the minute in which the patience is 0. */
  private static void allLeft() {
    DonorParts x = new DonorParts();
    for (int i = 0; i < THINGS; i++) {
      x.thing(i % 6, 0, 1 + i, 0);
    }
    for (int minute = 1; minute <= THINGS; minute++) {
      Due.is("none is repaired", x.pass(1), 0);
      Due.is("left", x.count(7), minute);
      Due.is("that wait", x.count(3), THINGS - minute);
      Due.is("in how many minutes the last one leaves", x.doneIn(THINGS - 1), THINGS - minute);
    }
  }

  /** 7: "8 its place among those that wait, by patience and number". */
  private static void aLongQueue() {
    DonorParts x = new DonorParts();
    for (int i = 0; i < THINGS; i++) {
      x.thing(0, 0, 90 - 10 * (i % 3), 0);
    }
    for (int i = 0; i < THINGS; i++) {
      Due.is("the place of " + i, x.ofThing(i, 8), 10 * (2 - i % 3) + i / 3);
    }
    x.fixer(1, 0);
    for (int taken = 0; taken < THINGS; taken++) {
      int next = 3 * (taken % 10) + 2 - taken / 10;
      Due.is("the next one", x.ofFixer(0, 6), next);
      Due.is("the first place", x.ofThing(next, 8), 0);
      Due.is("it is taken", x.pass(1), 1);
      Due.is("it is repaired", x.ofThing(next, 4), 2);
    }
  }

  /** 11: "Returns the part of which the most are missing": all lack the part 6, some of them the part 5, too. */
  private static void manyMissing() {
    for (int less = 1; less <= THINGS; less++) {
      DonorParts x = new DonorParts();
      for (int i = 0; i < THINGS; i++) {
        x.thing(4, i < less ? 64 : 96, 99, 0);
      }
      Due.is("29 of the part 6, " + less + " less of the part 5", x.scarcest(), 6);
      x.drawer(6, less);
      Due.is("one less of the part 5 than " + (THINGS - less), x.scarcest(), less < 30 ? 6 : NONE);
      x.drawer(6, less + 1);
      Due.is("of both " + (29 - less), x.scarcest(), less < 29 ? 5 : NONE);
    }
  }

  /** 13: "Tells how many things would be repaired in some minutes .."; 14: "the care .. the most things ..". */
  private static void manyRepairedInWhatIf() {
    for (int before = 0; before < THINGS; before++) {
      DonorParts x = withThings(before, 0, 0);
      x.thing(0, 0, 99, 1);
      for (int care = 0; care <= 9; care++) {
        boolean passes = (before + care) % 3 != 0;
        Due.is("of the care " + care, x.withFixer(63, care, before + 1), before + (passes ? 1 : 0));
      }
      Due.is("the best care", x.bestCare(before + 1), before % 3 == 0 ? 1 : 0);
    }
  }

  /** 13: "Tells how many things would be repaired in some minutes", 14: "would let the most things be repaired in some minutes": three minutes a thing. */
  private static void manyMinutesInWhatIf() {
    DonorParts x = withThings(THINGS, 0, 7);
    for (int part = 0; part < 3; part++) {
      x.drawer(part, 99);
    }
    for (int minutes = 1; minutes <= 120; minutes++) {
      Due.is("repaired in " + minutes, x.withFixer(1, 5, minutes), Math.min(minutes / 3, THINGS));
    }
    DonorParts y = withThings(THINGS - 1, 0, 7);
    for (int part = 0; part < 3; part++) {
      y.drawer(part, 99);
    }
    y.thing(0, 0, 99, 1);
    // the last thing is tested in minute 87, where the cares 0, 3, 6 and 9 fail, and needs two minutes more then
    Due.is("87 minutes", y.bestCare(87), 0);
    Due.is("88 minutes", y.bestCare(88), 1);
    Due.is("90 minutes", y.bestCare(90), 0);
  }

  /** 13: "in some minutes": a thing that is taken in its last minute, and whose repair takes the longest, is done in 108. */
  private static void mostMinutesInWhatIf() {
    DonorParts x = new DonorParts();
    for (int part = 0; part < 3; part++) {
      x.drawer(part, 99);
    }
    x.thing(0, 7, 99, 7);
    // of these ten, five are given up in 10 minutes and five repaired in 8, by turns; then 3, 3 and 2 minutes
    for (int i = 0; i < 10; i++) {
      x.thing(0, 7, 98, 7);
    }
    x.thing(0, 7, 98, 0);
    x.thing(0, 7, 98, 0);
    x.thing(0, 3, 98, 0);
    Due.is("up to the minute before", x.withFixer(1, 0, 107), 8);
    Due.is("with the last minute", x.withFixer(1, 0, 108), 9);
    Due.is("in many minutes", x.withFixer(1, 0, 300), 9);
  }

  /** Five fixers at work, and thirty things that wait, are being repaired, are repaired, stripped, or left. */
  private static DonorParts crowd() {
    DonorParts x = new DonorParts();
    for (int part = 0; part < 8; part++) {
      x.drawer(part, part == 4 ? 0 : 4);
    }
    for (int i = 0; i < THINGS; i++) {
      int kind = i % 6;
      x.thing(kind, (7 - i % 7) << kind, 1 + 7 * i % 20, i % 8);
    }
    x.giveUp(28);
    int[] kinds = {1, 2, 12, 48, 63};
    for (int i = 0; i < FIXERS; i++) {
      x.fixer(kinds[i], 2 * i);
    }
    x.pass(6);
    return x;
  }

  private static void isACrowd(DonorParts x) {
    for (int what = 3; what <= 7; what++) {
      Due.holds("some that are " + (what - 3), x.count(what) > 0);
    }
    int atWork = 0;
    for (int i = 0; i < FIXERS; i++) {
      atWork += x.ofFixer(i, 2) == NONE ? 0 : 1;
    }
    Due.holds("all fixers are at work", atWork == FIXERS);
  }

  /** 19: "everything except the pad, the slots and the history is as it was before it". */
  private static void aCrowdIsUndone() {
    isACrowd(crowd());
    int[] due = Look.atCafe(crowd());
    for (int minutes = 1; minutes <= 9; minutes++) {
      DonorParts x = crowd();
      x.pass(minutes);
      Due.is("undone", x.undo(), 5);
      Due.holds("all of the crowd is undone", Arrays.equals(Look.atCafe(x), due));
      DonorParts y = crowd();
      x.pass(9);
      y.pass(9);
      Due.holds("and it goes on as it would", Arrays.equals(firstNumbers(x), firstNumbers(y)));
    }
  }

  /** 20, 21: "Saves everything except the pad, the history and the slots", "Restores what was saved last in a slot". */
  private static void aCrowdIsRestored() {
    int[] due = Look.atCafe(crowd());
    for (int slot = 0; slot < 2; slot++) {
      DonorParts x = crowd();
      x.save(slot);
      x.pass(30);
      x.drawer(0, 77);
      Due.is("thirty things", x.restore(slot), THINGS);
      Due.holds("all of the crowd is restored", Arrays.equals(Look.atCafe(x), due));
      DonorParts y = crowd();
      x.pass(9);
      y.pass(9);
      Due.holds("and it goes on as it would", Arrays.equals(firstNumbers(x), firstNumbers(y)));
    }
  }

  /** What the fixers and the cafe as a whole show; an object is asked 512 times at most. */
  private static int[] firstNumbers(DonorParts x) {
    int[] seen = new int[43];
    int many = 0;
    for (int fixer = 0; fixer < FIXERS; fixer++) {
      for (int what = 0; what <= 6; what++) {
        seen[many] = x.ofFixer(fixer, what);
        many++;
      }
    }
    for (int what = 0; what <= 7; what++) {
      seen[many] = x.count(what);
      many++;
    }
    return seen;
  }

  /** 12: "Tells in how many minutes a thing will be gone, stripped, or left with by its owner (0 if it is so)": and in none before. */
  private static void aCrowdInWhatIf() {
    for (int thing = 0; thing < THINGS; thing++) {
      DonorParts x = crowd();
      int told = x.doneIn(thing);
      Due.is("0 if it is so of " + thing, told == 0 ? 1 : 0, isSo(x, thing));
      if (told > 1) {
        x.pass(told - 1);
        Due.is("not yet so of " + thing, isSo(x, thing), 0);
      }
      if (told > 0) {
        x.pass(1);
        Due.is("so of " + thing, isSo(x, thing), 1);
      }
      Due.is("told of " + thing + " then", x.doneIn(thing), 0);
    }
  }

  private static int isSo(DonorParts x, int thing) {
    return x.ofThing(thing, 4) >= 2 ? 1 : 0;
  }
}
