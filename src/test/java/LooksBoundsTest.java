/** The bounds that promises 7 to 11 name, a test for each sentence, which stands above it. */
public final class LooksBoundsTest {
  private static final int NO_SUCH = -1, BAD_VALUE = -2, NONE = -6;

  public static void main(String[] args) {
    errorsOfOfThing();
    patienceLeft();
    noFixerOfAThing();
    howOftenATestFailed();
    partsThatWereExchanged();
    placeAmongThoseThatWait();
    errorsOfOfFixer();
    noThingOfAFixer();
    repairedAndGivenUpSoFar();
    minutesOfWork();
    nextOfAFixer();
    errorsOfOfPart();
    brokenOnes();
    exchangedSoFar();
    strippedSoFar();
    errorsOfCount();
    countsOfThings();
    lengthOfThePad();
    changesThatCanBeUndone();
    missingMoreThan0();
    lowestOfSeveral();
    missingInWhatIsHere();
    Due.end();
  }

  /** 7: "NO_SUCH if there is no such thing; BAD_VALUE if what is out of range." */
  private static void errorsOfOfThing() {
    DonorParts x = new DonorParts();
    Due.is("0 of 0", x.ofThing(0, 0), NO_SUCH);
    Due.is("0 of 0, what -1", x.ofThing(0, -1), NO_SUCH);
    x.thing(4, 16, 20, 2);
    Due.is("0 of 1", x.ofThing(0, 0), 4);
    Due.is("1 of 1", x.ofThing(1, 0), NO_SUCH);
    Due.is("1 of 1, what 9", x.ofThing(1, 9), NO_SUCH);
    Due.is("-1", x.ofThing(-1, 0), NO_SUCH);
    Due.is("-1, what 9", x.ofThing(-1, 9), NO_SUCH);
    Due.is("what -1", x.ofThing(0, -1), BAD_VALUE);
    Due.is("what 8", x.ofThing(0, 8), 0);
    Due.is("what 9", x.ofThing(0, 9), BAD_VALUE);
  }

  /** 7: "2 the patience left": from what it came with down to 0. */
  private static void patienceLeft() {
    DonorParts x = new DonorParts();
    x.thing(0, 0, 3, 0);
    for (int left = 3; left >= 0; left--) {
      Due.is("left", x.ofThing(0, 2), left);
      Due.is("how it is", x.ofThing(0, 4), left == 0 ? 4 : 0);
      x.pass(1);
    }
    Due.is("not below 0", x.ofThing(0, 2), 0);
  }

  /** 7: "5 its fixer (NONE, if none works on it)". */
  private static void noFixerOfAThing() {
    DonorParts x = new DonorParts();
    x.drawer(0, 0);
    x.thing(0, 2, 9, 0);
    Due.is("none before there is one", x.ofThing(0, 5), NONE);
    x.fixer(2, 0);
    x.fixer(1, 0);
    x.thing(0, 6, 9, 0);
    x.thing(0, 1, 9, 0);
    x.thing(1, 0, 1, 7);
    Due.is("none while it waits", x.ofThing(1, 5), NONE);
    x.pass(1);
    Due.is("none when it is repaired", x.ofThing(0, 5), NONE);
    x.drawer(1, 1);
    x.pass(1);
    Due.is("fixer 1", x.ofThing(1, 5), 1);
    Due.is("fixer 0", x.ofThing(3, 5), 0);
    Due.is("none while it still waits", x.ofThing(2, 5), NONE);
    x.pass(2);
    Due.is("none when it is repaired", x.ofThing(1, 5), NONE);
    Due.is("none when it is given up", x.ofThing(2, 5), NONE);
    Due.is("which it is", x.ofThing(2, 4), 3);
  }

  /** 7: "6 how often a test failed": 0 to 3. */
  private static void howOftenATestFailed() {
    DonorParts x = new DonorParts();
    x.drawer(0, 2);
    x.fixer(1, 0);
    x.thing(0, 0, 9, 7);
    int[] due = {0, 1, 1, 1, 2, 2, 2, 3, 3};
    for (int minute = 0; minute < due.length; minute++) {
      Due.is("before minute " + minute, x.ofThing(0, 6), due[minute]);
      x.pass(1);
    }
  }

  /** 7: "7 parts that were exchanged": also those that a test broke. */
  private static void partsThatWereExchanged() {
    DonorParts x = new DonorParts();
    x.drawer(0, 9);
    x.fixer(1, 2);
    x.thing(0, 7, 9, 7);
    int[] due = {0, 1, 2, 3, 3, 3, 4, 4, 4, 5, 5};
    for (int minute = 0; minute < due.length; minute++) {
      Due.is("before minute " + minute, x.ofThing(0, 7), due[minute]);
      x.pass(1);
    }
    Due.is("repaired with them", x.ofThing(0, 4), 2);
  }

  /** 7: "8 its place among those that wait, by patience and number (NONE)". */
  private static void placeAmongThoseThatWait() {
    DonorParts x = new DonorParts();
    for (int i = 0; i < 30; i++) {
      x.thing(i % 6, 0, 50 - i / 2, 0);
    }
    for (int i = 0; i < 30; i++) {
      Due.is("place of " + i, x.ofThing(i, 8), 28 - i / 2 * 2 + i % 2);
    }
    x.giveUp(28);
    Due.is("stripped, no place", x.ofThing(28, 8), NONE);
    Due.is("the first one then", x.ofThing(29, 8), 0);
    Due.is("the last one then", x.ofThing(1, 8), 28);
    x.fixer(32, 1);
    x.pass(1);
    Due.is("repaired, no place", x.ofThing(29, 8), NONE);
    x.pass(36);
    Due.is("left, no place", x.ofThing(27, 8), NONE);
    DonorParts y = new DonorParts();
    y.thing(0, 3, 9, 0);
    Due.is("alone", y.ofThing(0, 8), 0);
    y.thing(1, 0, 99, 0);
    Due.is("the second one", y.ofThing(1, 8), 1);
    y.fixer(1, 0);
    y.pass(1);
    Due.is("being repaired, no place", y.ofThing(0, 8), NONE);
    Due.is("the first one that waits", y.ofThing(1, 8), 0);
  }

  /** 8: "NO_SUCH if there is no such fixer; BAD_VALUE if what is out of range." */
  private static void errorsOfOfFixer() {
    DonorParts x = new DonorParts();
    Due.is("0 of 0", x.ofFixer(0, 0), NO_SUCH);
    Due.is("0 of 0, what 7", x.ofFixer(0, 7), NO_SUCH);
    x.fixer(9, 3);
    Due.is("0 of 1", x.ofFixer(0, 0), 9);
    Due.is("1 of 1", x.ofFixer(1, 0), NO_SUCH);
    Due.is("1 of 1, what -1", x.ofFixer(1, -1), NO_SUCH);
    Due.is("-1", x.ofFixer(-1, 0), NO_SUCH);
    Due.is("what -1", x.ofFixer(0, -1), BAD_VALUE);
    Due.is("what 6", x.ofFixer(0, 6), NONE);
    Due.is("what 7", x.ofFixer(0, 7), BAD_VALUE);
    for (int i = 1; i < 5; i++) {
      x.fixer(9, 3);
    }
    Due.is("4 of 5", x.ofFixer(4, 1), 3);
    Due.is("5 of 5", x.ofFixer(5, 1), NO_SUCH);
  }

  /** 8: "2 the thing that the fixer works on (NONE)". */
  private static void noThingOfAFixer() {
    DonorParts x = new DonorParts();
    x.fixer(3, 1);
    Due.is("none at first", x.ofFixer(0, 2), NONE);
    x.thing(2, 0, 9, 0);
    x.pass(1);
    Due.is("none of the kinds", x.ofFixer(0, 2), NONE);
    x.thing(1, 6, 9, 0);
    Due.is("none before the minute", x.ofFixer(0, 2), NONE);
    x.pass(1);
    Due.is("thing 1", x.ofFixer(0, 2), 1);
    x.pass(1);
    Due.is("none when it is repaired", x.ofFixer(0, 2), NONE);
    x.drawer(0, 0);
    x.thing(0, 1, 9, 0);
    x.pass(1);
    Due.is("none when it is given up", x.ofFixer(0, 2), NONE);
    DonorParts y = new DonorParts();
    y.fixer(1, 0);
    y.thing(0, 6, 9, 0);
    y.pass(1);
    Due.is("the thing 0 is a thing", y.ofFixer(0, 2), 0);
  }

  /** 8: "3 things repaired so far, 4 things given up by the fixer so far": each fixer's own. */
  private static void repairedAndGivenUpSoFar() {
    DonorParts x = new DonorParts();
    x.fixer(1, 0);
    x.fixer(1, 0);
    x.drawer(1, 0);
    for (int i = 0; i < 4; i++) {
      x.thing(0, i % 2 * 2, 9, 0);
    }
    Due.is("fixer 0", x.ofFixer(0, 3), 0);
    x.pass(2);
    Due.is("fixer 0 repaired", x.ofFixer(0, 3), 2);
    Due.is("fixer 0 gave none up", x.ofFixer(0, 4), 0);
    Due.is("fixer 1 repaired none", x.ofFixer(1, 3), 0);
    Due.is("fixer 1 gave two up", x.ofFixer(1, 4), 2);
    x.thing(0, 0, 9, 0);
    x.giveUp(4);
    Due.is("given up by hand", x.ofFixer(0, 4) + x.ofFixer(1, 4), 2);
  }

  /** 8: "5 minutes of work so far": only those in which there was a thing. */
  private static void minutesOfWork() {
    DonorParts x = new DonorParts();
    x.fixer(1, 1);
    x.pass(99);
    Due.is("nothing to do", x.ofFixer(0, 5), 0);
    x.thing(1, 0, 99, 0);
    x.pass(50);
    Due.is("nothing of the kind", x.ofFixer(0, 5), 0);
    x.thing(0, 3, 9, 0);
    x.pass(1);
    Due.is("one minute", x.ofFixer(0, 5), 1);
    x.pass(98);
    Due.is("two minutes", x.ofFixer(0, 5), 2);
  }

  /** 8: "6 the thing that the fixer would take next, if it was the turn of this one now (NONE)". */
  private static void nextOfAFixer() {
    DonorParts x = new DonorParts();
    x.fixer(1, 0);
    x.fixer(3, 0);
    Due.is("no thing", x.ofFixer(0, 6), NONE);
    x.thing(1, 0, 5, 0);
    Due.is("none of the kinds", x.ofFixer(0, 6), NONE);
    Due.is("one of the kinds", x.ofFixer(1, 6), 0);
    x.thing(0, 3, 4, 0);
    Due.is("the same thing for both", x.ofFixer(0, 6), 1);
    Due.is("the same thing for both", x.ofFixer(1, 6), 1);
    x.giveUp(1);
    Due.is("none again", x.ofFixer(0, 6), NONE);
    Due.is("the other one", x.ofFixer(1, 6), 0);
    x.pass(1);
    Due.is("none is left", x.ofFixer(1, 6), NONE);
  }

  /** 9: "NO_SUCH if there is no such part; BAD_VALUE if what is out of range." */
  private static void errorsOfOfPart() {
    DonorParts x = new DonorParts();
    Due.is("-1", x.ofPart(-1, 0), NO_SUCH);
    Due.is("8", x.ofPart(8, 0), NO_SUCH);
    Due.is("-1, what 4", x.ofPart(-1, 4), NO_SUCH);
    Due.is("8, what -1", x.ofPart(8, -1), NO_SUCH);
    for (int part = 0; part < 8; part += 7) {
      Due.is("what -1", x.ofPart(part, -1), BAD_VALUE);
      Due.is("what 0", x.ofPart(part, 0), 1);
      Due.is("what 3", x.ofPart(part, 3), 0);
      Due.is("what 4", x.ofPart(part, 4), BAD_VALUE);
    }
  }

  /** 9: "1 broken ones in things that wait or are being repaired": none, all thirty, and not in those that are gone. */
  private static void brokenOnes() {
    DonorParts x = new DonorParts();
    Due.is("none", x.ofPart(2, 1), 0);
    for (int i = 0; i < 30; i++) {
      x.thing(i % 3, 4, 3, 0);
    }
    Due.is("thirty", x.ofPart(2, 1), 30);
    Due.is("none of another kind", x.ofPart(1, 1), 0);
    x.giveUp(0);
    Due.is("not in what is stripped", x.ofPart(2, 1), 29);
    x.fixer(2, 0);
    x.pass(1);
    Due.is("not what was exchanged", x.ofPart(2, 1), 28);
    x.pass(1);
    Due.is("not in what a fixer gave up", x.ofPart(2, 1), 27);
    x.pass(1);
    Due.is("not in what left", x.ofPart(2, 1), 0);
    DonorParts y = new DonorParts();
    y.fixer(1, 0);
    y.thing(0, 3, 1, 0);
    y.pass(1);
    Due.is("in what is being repaired", y.ofPart(1, 1), 1);
  }

  /** 9: "2 exchanged so far": of this kind alone. */
  private static void exchangedSoFar() {
    DonorParts x = new DonorParts();
    x.fixer(1, 0);
    for (int i = 0; i < 3; i++) {
      x.thing(0, 1, 9, 0);
    }
    x.drawer(0, 2);
    Due.is("none by drawer()", x.ofPart(0, 2), 0);
    x.pass(1);
    Due.is("one", x.ofPart(0, 2), 1);
    x.pass(2);
    Due.is("two, and none for the third", x.ofPart(0, 2), 2);
    Due.is("none of another kind", x.ofPart(1, 2), 0);
  }

  /** 9: "3 stripped so far (also those that the drawer had no room for)". */
  private static void strippedSoFar() {
    DonorParts x = new DonorParts();
    x.drawer(0, 98);
    for (int i = 0; i < 3; i++) {
      x.thing(0, 2, 9, 0);
      Due.is("before", x.ofPart(0, 3), i);
      x.giveUp(i);
      Due.is("then", x.ofPart(0, 3), i + 1);
      Due.is("in the drawer", x.ofPart(0, 0), 99);
      Due.is("no broken ones", x.ofPart(1, 3), 0);
    }
    x.drawer(0, 0);
    Due.is("not less by drawer()", x.ofPart(0, 3), 3);
  }

  /** 10: "BAD_VALUE if what is out of range." */
  private static void errorsOfCount() {
    DonorParts x = new DonorParts();
    Due.is("what -1", x.count(-1), BAD_VALUE);
    Due.is("what 0", x.count(0), 0);
    Due.is("what 9", x.count(9), 0);
    Due.is("what 10", x.count(10), BAD_VALUE);
  }

  /** 10: "3 things that wait, 4 that are being repaired, 5 repaired, 6 stripped, 7 whose owners left": each thing is in one of them. */
  private static void countsOfThings() {
    DonorParts x = new DonorParts();
    x.fixer(1, 0);
    for (int i = 0; i < 30; i++) {
      x.thing(i % 2, i % 8 & 3 << i % 2, 2 + i % 12, i % 5);
    }
    for (int minute = 0; minute < 16; minute += 2) {
      int[] due = new int[5];
      for (int i = 0; i < 30; i++) {
        due[x.ofThing(i, 4)]++;
      }
      for (int how = 0; how < 5; how++) {
        Due.is("those of " + how + " before minute " + minute, x.count(3 + how), due[how]);
      }
      x.pass(2);
    }
    Due.is("none waits", x.count(3), 0);
    Due.is("things", x.count(1), 30);
  }

  /** 10: "8 the length of the pad": 0 to 80. */
  private static void lengthOfThePad() {
    DonorParts x = new DonorParts();
    for (int length = 0; length < 80; length++) {
      Due.is("length", x.count(8), length);
      Due.is("one more", x.put('a' + length % 26), length + 1);
    }
    Due.is("full", x.count(8), 80);
    x.put('a');
    Due.is("not longer", x.count(8), 80);
    x.wipe();
    Due.is("empty", x.count(8), 0);
  }

  /** 10: "9 how many changes can be undone": 0 to 6. */
  private static void changesThatCanBeUndone() {
    DonorParts x = new DonorParts();
    for (int i = 0; i < 8; i++) {
      Due.is("changes", x.count(9), Math.min(i, 6));
      x.drawer(0, i);
    }
    for (int i = 6; i >= 0; i--) {
      Due.is("changes", x.count(9), i);
      x.undo();
    }
    Due.is("none", x.count(9), 0);
  }

  /** 11: "NONE if none is missing (more than 0)". */
  private static void missingMoreThan0() {
    for (int part = 0; part < 8; part++) {
      int kind = Math.min(part, 5);
      DonorParts x = new DonorParts();
      Due.is("no thing", x.scarcest(), NONE);
      x.thing(kind, 1 << part, 9, 0);
      Due.is("one broken, one in the drawer: 0 are missing", x.scarcest(), NONE);
      x.thing(kind, 1 << part, 9, 0);
      Due.is("two broken, one in the drawer: 1 is missing", x.scarcest(), part);
      x.drawer(part, 2);
      Due.is("two broken, two in the drawer", x.scarcest(), NONE);
      x.drawer(part, 0);
      Due.is("two broken, none in the drawer", x.scarcest(), part);
      x.drawer(part, 99);
      Due.is("two broken, 99 in the drawer", x.scarcest(), NONE);
    }
  }

  /** 11: "the part of which the most are missing ..; of several the lowest one". */
  private static void lowestOfSeveral() {
    for (int low = 0; low < 7; low++) {
      DonorParts x = new DonorParts();
      for (int part = low; part < 8; part++) {
        x.drawer(part, 0);
        x.thing(Math.min(part, 5), 1 << part, 9, 0);
      }
      Due.is("one of each from " + low + " on", x.scarcest(), low);
      x.thing(5, 128, 9, 0);
      Due.is("two of the last", x.scarcest(), 7);
      x.thing(low < 5 ? low : 5, 1 << low, 9, 0);
      Due.is("two of the first, too", x.scarcest(), low);
    }
    DonorParts y = new DonorParts();
    y.drawer(0, 2);
    y.drawer(1, 0);
    for (int i = 0; i < 3; i++) {
      y.thing(0, i < 2 ? 3 : 1, 9, 0);
    }
    Due.is("three are broken of part 0, but two are missing of part 1", y.scarcest(), 1);
    y.drawer(0, 1);
    Due.is("two are missing of both", y.scarcest(), 0);
  }

  /** 11: "broken ones in things that wait or are being repaired, less those in the drawer". */
  private static void missingInWhatIsHere() {
    DonorParts x = new DonorParts();
    x.drawer(3, 0);
    x.fixer(2, 0);
    x.thing(1, 10, 9, 0);
    x.thing(3, 8, 9, 0);
    x.drawer(1, 2);
    x.pass(1);
    Due.is("one waits, one is being repaired", x.scarcest(), 3);
    Due.is("two of it", x.ofPart(3, 1), 2);
    x.giveUp(1);
    Due.is("the one that is being repaired", x.scarcest(), 3);
    x.pass(1);
    Due.is("none is left", x.scarcest(), NONE);
    DonorParts y = new DonorParts();
    y.drawer(3, 0);
    y.thing(3, 8, 2, 0);
    y.pass(1);
    Due.is("one waits", y.scarcest(), 3);
    y.pass(1);
    Due.is("it left", y.scarcest(), NONE);
  }
}
