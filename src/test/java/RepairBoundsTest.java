/** The bounds that the document names where it says how fixers work and what a minute is, a test for each sentence. */
public final class RepairBoundsTest {
  private static final int NONE = -6;

  public static void main(String[] args) {
    leastPatience();
    lowestNumber();
    waitingThingsOfTheRightKindsAlone();
    noneToTake();
    oneMinuteForEachPart();
    lastPartOfTheDrawer();
    noPartInTheDrawer();
    testsWhenNoPartIsBroken();
    lowestTestFirst();
    sumsThatCanBeDivided();
    numbersOfMinutesThatAreHigh();
    whatAFailedTestBreaks();
    brokenAgainAndAgain();
    threeFailures();
    threeFailuresOfOneTest();
    endOfTheLastMinute();
    nothingToRepair();
    strippedAtOnce();
    minutesFrom0();
    firstEachFreeFixerTakes();
    whoIsDoneTakesInTheNextMinute();
    workInTheSameOrder();
    patienceLast();
    whatIsTakenLosesNoPatience();
    Due.end();
  }

  /** "takes, of all waiting things .., the one with the least patience left": left over, not as it came. */
  private static void leastPatience() {
    DonorParts x = new DonorParts();
    x.thing(0, 0, 9, 0);
    Due.is("an early one", x.pass(5), 0);
    x.thing(0, 0, 5, 0);
    x.fixer(1, 0);
    Due.is("4 left is less than 5", x.ofFixer(0, 6), 0);
    x.thing(0, 0, 3, 0);
    Due.is("3 is less than 4", x.ofFixer(0, 6), 2);
    x.thing(0, 0, 99, 0);
    x.thing(0, 0, 1, 0);
    Due.is("1 is the least", x.ofFixer(0, 6), 4);
    DonorParts y = new DonorParts();
    y.thing(0, 0, 99, 0);
    y.fixer(1, 0);
    Due.is("99 is taken if there is no other", y.ofFixer(0, 6), 0);
    Due.is("and repaired", y.pass(1), 1);
  }

  /** "of several the one with the lowest number". */
  private static void lowestNumber() {
    DonorParts x = new DonorParts();
    x.fixer(6, 0);
    x.thing(0, 0, 5, 0);
    x.thing(2, 0, 6, 0);
    x.thing(1, 0, 5, 0);
    x.thing(2, 0, 5, 0);
    x.thing(1, 0, 5, 0);
    for (int thing = 2; thing <= 4; thing++) {
      Due.is("next is " + thing, x.ofFixer(0, 6), thing);
      x.pass(1);
      Due.is("done is " + thing, x.ofThing(thing, 4), 2);
    }
    Due.is("and the one with more patience comes last", x.ofFixer(0, 6), 1);
  }

  /** "of all waiting things of kinds that the fixer can repair". */
  private static void waitingThingsOfTheRightKindsAlone() {
    DonorParts x = new DonorParts();
    x.fixer(32, 0);
    x.fixer(33, 0);
    x.thing(4, 0, 2, 0);
    x.thing(5, 0, 3, 7);
    x.thing(5, 0, 4, 0);
    x.thing(0, 0, 9, 0);
    x.giveUp(2);
    x.pass(1);
    Due.is("thing 1 to fixer 0", x.ofFixer(0, 2), 1);
    Due.is("neither what is taken nor what is stripped, but thing 3, to fixer 1", x.ofThing(3, 4), 2);
    Due.is("done by fixer 1", x.ofFixer(1, 3), 1);
    Due.is("none is left for fixer 1", x.ofFixer(1, 6), NONE);
    Due.is("thing 0 waits", x.ofThing(0, 4), 0);
  }

  /** The same where there is none to take: the fixer stays free. */
  private static void noneToTake() {
    DonorParts x = new DonorParts();
    x.fixer(1, 0);
    x.thing(1, 0, 9, 0);
    Due.is("none", x.pass(3), 0);
    Due.is("free", x.ofFixer(0, 2), NONE);
    Due.is("no work", x.ofFixer(0, 5), 0);
    Due.is("it waits", x.ofThing(0, 2), 6);
  }

  /** "each broken part, from the lowest kind on, is exchanged in one minute for one from the drawer". */
  private static void oneMinuteForEachPart() {
    for (int kind = 0; kind < 6; kind++) {
      for (int set = 1; set < 8; set++) {
        DonorParts x = new DonorParts();
        x.fixer(63, 0);
        x.thing(kind, set << kind, 9, 0);
        int left = set << kind;
        while (left != 0) {
          Due.is("still broken", x.ofThing(0, 1), left);
          Due.is("not yet repaired", x.ofThing(0, 4) <= 1 ? 1 : 0, 1);
          int lowest = Integer.numberOfTrailingZeros(left);
          left -= 1 << lowest;
          Due.is("repaired with the last one", x.pass(1), left == 0 ? 1 : 0);
          Due.is("out of the drawer", x.ofPart(lowest, 0), 0);
          Due.is("exchanged", x.ofPart(lowest, 2), 1);
        }
        Due.is("as many as were broken", x.ofThing(0, 7), Integer.bitCount(set));
        Due.is("as many minutes", x.ofFixer(0, 5), Integer.bitCount(set));
      }
    }
  }

  /** "for one from the drawer": one is enough. */
  private static void lastPartOfTheDrawer() {
    DonorParts x = new DonorParts();
    x.drawer(7, 1);
    x.fixer(32, 0);
    x.thing(5, 128, 9, 0);
    Due.is("one part is enough", x.pass(1), 1);
    Due.is("repaired", x.ofThing(0, 4), 2);
    Due.is("the drawer is empty", x.ofPart(7, 0), 0);
    Due.is("none is given up", x.ofFixer(0, 4), 0);
  }

  /** "If the drawer has none, the thing is given up." */
  private static void noPartInTheDrawer() {
    for (int kind = 0; kind < 6; kind++) {
      for (int i = 0; i < 3; i++) {
        DonorParts x = new DonorParts();
        x.drawer(kind + i, 0);
        x.fixer(63, 0);
        x.thing(kind, 7 << kind, 9, 0);
        x.pass(i + 1);
        Due.is("given up in the minute in which it is missing", x.ofThing(0, 4), 3);
        Due.is("those before it were exchanged", x.ofThing(0, 7), i);
        Due.is("one is given up", x.ofFixer(0, 4), 1);
        Due.is("the drawer has none", x.ofPart(kind + i, 0), 0);
        Due.is("none was exchanged", x.ofPart(kind + i, 2), 0);
        for (int k = 0; k < 3; k++) {
          Due.is("what was exchanged is good again, and stripped", x.ofPart(kind + k, 3), k < i ? 1 : 0);
        }
      }
    }
  }

  /** "when no part is broken, a test takes one minute". */
  private static void testsWhenNoPartIsBroken() {
    DonorParts x = new DonorParts();
    x.fixer(1, 0);
    x.thing(0, 6, 9, 3);
    x.pass(2);
    Due.is("parts first", x.ofThing(0, 1), 0);
    Due.is("no test yet", x.ofThing(0, 3), 3);
    Due.is("none has failed yet", x.ofThing(0, 6), 0);
    // minute 2, care 0, kind 0
    x.pass(1);
    Due.is("then one test", x.ofThing(0, 3), 2);
    // minute 3
    x.pass(1);
    Due.is("then one test, which fails", x.ofThing(0, 6), 1);
    Due.is("and stays", x.ofThing(0, 3), 2);
    x.drawer(0, 1);
    x.pass(1);
    Due.is("the part that it broke comes before the test", x.ofThing(0, 1), 0);
    Due.is("the test still stays", x.ofThing(0, 3), 2);
    Due.is("then it passes", x.pass(1), 1);
  }

  /** "the lowest one that it does not pass". */
  private static void lowestTestFirst() {
    for (int tests = 1; tests < 8; tests++) {
      DonorParts x = new DonorParts();
      x.fixer(1, 1);
      x.thing(0, 0, 9, tests);
      x.pass(1);
      Due.is("the lowest of " + tests, x.ofThing(0, 3), tests & (tests - 1));
      Due.is("repaired if there was but one", x.ofThing(0, 4), Integer.bitCount(tests) == 1 ? 2 : 1);
    }
  }

  /** "It passes if the number of the minute, and the fixer's care, and the kind of the thing, added, cannot be divided by 3". */
  private static void sumsThatCanBeDivided() {
    int[] sums = {0, 1, 2, 3, 4, 5, 6, 12, 13, 14, 15, 16};
    for (int sum : sums) {
      for (int kind = 0; kind <= 5; kind++) {
        for (int care = 0; care <= 9; care++) {
          int minute = sum - kind - care;
          if (minute < 0) {
            continue;
          }
          DonorParts x = new DonorParts();
          if (minute > 0) {
            x.pass(minute);
          }
          x.fixer(63, care);
          x.thing(kind, 0, 9, 1);
          boolean fails = sum == 0 || sum == 3 || sum == 6 || sum == 12 || sum == 15;
          Due.is("the sum " + sum, x.pass(1), fails ? 0 : 1);
          Due.is("failures at the sum " + sum, x.ofThing(0, 6), fails ? 1 : 0);
          Due.is("tests at the sum " + sum, x.ofThing(0, 3), fails ? 1 : 0);
        }
      }
    }
  }

  /** The same up to the last minute that there can be, which has the number 9998. */
  private static void numbersOfMinutesThatAreHigh() {
    DonorParts x = new DonorParts();
    for (int i = 0; i < 100; i++) {
      x.pass(99);
    }
    x.pass(95);
    // 9996 can be divided by 3
    int[] failingCare = {1, 0, 2, 1};
    for (int minute = 9995; minute <= 9998; minute++) {
      x.save(0);
      for (int care = 0; care < 3; care++) {
        x.restore(0);
        x.fixer(63, care);
        x.thing(0, 0, 9, 1);
        boolean fails = failingCare[minute - 9995] == care;
        Due.is("minute " + minute + ", care " + care, x.pass(1), fails ? 0 : 1);
        Due.is("failures in minute " + minute + ", care " + care, x.ofThing(0, 6), fails ? 1 : 0);
      }
      x.restore(0);
      x.pass(1);
    }
    Due.is("the last one", x.count(0), 9999);
  }

  /** "otherwise it fails: the part k of the thing of the kind k is broken by it, and the test stays as it was". */
  private static void whatAFailedTestBreaks() {
    for (int kind = 0; kind < 6; kind++) {
      DonorParts x = new DonorParts();
      x.fixer(63, (6 - kind) % 3);
      x.thing(kind, 0, 9, 5);
      Due.is("it fails", x.pass(1), 0);
      Due.is("part " + kind + " is broken", x.ofThing(0, 1), 1 << kind);
      Due.is("the test stays", x.ofThing(0, 3), 5);
      Due.is("it is told", x.ofThing(0, 6), 1);
      Due.is("a broken part more", x.ofPart(kind, 1), 1);
      Due.is("the drawer is as it was", x.ofPart(kind, 0), 1);
      Due.is("it goes on", x.ofThing(0, 4), 1);
    }
  }

  /** The same where the drawer has no part for it any more: given up with the first failure behind it. */
  private static void brokenAgainAndAgain() {
    DonorParts x = new DonorParts();
    x.fixer(1, 0);
    x.thing(0, 0, 9, 7);
    // fails, the only part 0 is exchanged, passes, fails, and there is no part 0
    x.pass(4);
    Due.is("two failures", x.ofThing(0, 6), 2);
    Due.is("it goes on", x.ofThing(0, 4), 1);
    x.pass(1);
    Due.is("given up for want of a part", x.ofThing(0, 4), 3);
    Due.is("with two failures", x.ofThing(0, 6), 2);
    Due.is("part 0 is not stripped", x.ofPart(0, 3), 0);
    Due.is("parts 1 and 2 are", x.ofPart(1, 3) + x.ofPart(2, 3), 2);
  }

  /** "A thing with which tests failed three times is given up.": not with two, and in the very minute of the third. */
  private static void threeFailures() {
    DonorParts x = new DonorParts();
    x.drawer(0, 9);
    x.fixer(1, 0);
    x.thing(0, 0, 9, 7);
    int[] failures = {1, 1, 1, 2, 2, 2, 3};
    for (int minute = 0; minute < failures.length; minute++) {
      Due.is("none is repaired", x.pass(1), 0);
      Due.is("failures after minute " + minute, x.ofThing(0, 6), failures[minute]);
      Due.is("how it is after minute " + minute, x.ofThing(0, 4), minute < 6 ? 1 : 3);
      Due.is("given up after minute " + minute, x.ofFixer(0, 4), minute < 6 ? 0 : 1);
    }
    Due.is("the part that was broken last stays broken", x.ofThing(0, 1), 1);
    Due.is("and is not stripped", x.ofPart(0, 3), 0);
    Due.is("two were exchanged", x.ofPart(0, 0), 7);
    x.pass(9);
    Due.is("no more work on it", x.ofFixer(0, 5), 7);
  }

  /** Two failures do not give a thing up: it can still be repaired with them. */
  private static void threeFailuresOfOneTest() {
    DonorParts x = new DonorParts();
    x.drawer(0, 9);
    x.fixer(1, 0);
    x.thing(0, 0, 9, 3);
    Due.is("repaired in six minutes", x.doneIn(0), 6);
    Due.is("it is one of the repaired", x.pass(6), 1);
    Due.is("with two failures", x.ofThing(0, 6), 2);
    // the failures of one thing are not those of the next
    x.thing(0, 0, 9, 3);
    Due.is("a next one can fail twice too", x.pass(6), 1);
    Due.is("with two failures of its own", x.ofThing(1, 6), 2);
    Due.is("none is given up", x.ofFixer(0, 4), 0);
  }

  /** "When no part is broken and all tests are passed, the thing is repaired and gone, at the end of that minute". */
  private static void endOfTheLastMinute() {
    int[] minutes = {8, 10};
    for (int care = 1; care <= 2; care++) {
      DonorParts x = new DonorParts();
      x.drawer(0, 9);
      x.fixer(1, care);
      x.thing(0, 7, 9, 7);
      // care 1: three parts, 4 and 5 pass, 6 fails, a part, 8 passes
      // care 2: three parts, 5 passes, 6 fails, a part, 8 passes, 9 fails, a part, 11 passes
      int due = minutes[care - 1];
      Due.is("in how many minutes", x.doneIn(0), due);
      Due.is("not a minute before", x.pass(due - 1), 0);
      Due.is("it is still being repaired", x.ofThing(0, 4), 1);
      Due.is("the fixer is at it", x.ofFixer(0, 2), 0);
      Due.is("but then", x.pass(1), 1);
      Due.is("it is repaired", x.ofThing(0, 4), 2);
      Due.is("the fixer is free", x.ofFixer(0, 2), NONE);
      Due.is("all of that was work", x.ofFixer(0, 5), due);
      Due.is("its patience stood", x.ofThing(0, 2), 9);
    }
  }

  /** "(a thing without broken parts and tests to pass: at the end of the first minute)". */
  private static void nothingToRepair() {
    for (int kind = 0; kind < 6; kind++) {
      DonorParts x = new DonorParts();
      x.fixer(63, (6 - kind) % 3);
      x.thing(kind, 0, 1, 0);
      Due.is("it waits", x.ofThing(0, 4), 0);
      Due.is("one minute", x.doneIn(0), 1);
      Due.is("at the end of the first minute, also where a test would fail", x.pass(1), 1);
      Due.is("no test failed", x.ofThing(0, 6), 0);
      Due.is("nothing was exchanged", x.ofThing(0, 7), 0);
      Due.is("a minute of work", x.ofFixer(0, 5), 1);
    }
  }

  /** "A thing that is given up is stripped at once: its good parts go to the drawer". */
  private static void strippedAtOnce() {
    DonorParts x = new DonorParts();
    x.drawer(2, 0);
    x.drawer(3, 0);
    x.fixer(1, 0);
    x.fixer(2, 0);
    x.fixer(4, 0);
    x.thing(0, 4, 9, 0);
    x.thing(1, 4, 9, 0);
    x.thing(2, 8, 9, 0);
    // things 0 and 1 find no part 2; part 3 of thing 1 is there for fixer 2 in the same minute
    Due.is("thing 2 is repaired", x.pass(1), 1);
    Due.is("thing 0 is stripped", x.ofThing(0, 4), 3);
    Due.is("thing 1 is stripped", x.ofThing(1, 4), 3);
    Due.is("thing 2 is gone", x.ofThing(2, 4), 2);
    Due.is("part 0 is in the drawer", x.ofPart(0, 0), 2);
    Due.is("part 1 of both", x.ofPart(1, 0), 3);
    Due.is("part 3 was used", x.ofPart(3, 0), 0);
    Due.is("and stripped before", x.ofPart(3, 3), 1);
  }

  /** "Minutes are counted from 0 on." */
  private static void minutesFrom0() {
    DonorParts x = new DonorParts();
    Due.is("no minute so far", x.count(0), 0);
    x.fixer(1, 0);
    x.thing(0, 0, 9, 1);
    x.pass(1);
    Due.is("the first one has the number 0: a test of the sum 0 fails", x.ofThing(0, 6), 1);
    Due.is("one minute so far", x.count(0), 1);
    DonorParts y = new DonorParts();
    y.pass(1);
    y.fixer(1, 0);
    y.thing(0, 0, 9, 1);
    Due.is("the second one has the number 1: it passes", y.pass(1), 1);
  }

  /** "first each free fixer, in the order of their numbers, takes a thing". */
  private static void firstEachFreeFixerTakes() {
    DonorParts x = new DonorParts();
    for (int i = 0; i < 5; i++) {
      x.fixer(1, i);
    }
    int[] patience = {9, 5, 7, 5, 6, 8};
    for (int p : patience) {
      x.thing(0, 7, p, 0);
    }
    x.drawer(0, 9);
    x.pass(1);
    int[] taken = {1, 3, 4, 2, 5};
    for (int i = 0; i < 5; i++) {
      Due.is("fixer " + i + " takes", x.ofFixer(i, 2), taken[i]);
      Due.is("thing " + taken[i] + " is taken by", x.ofThing(taken[i], 5), i);
    }
    Due.is("the most patient one waits", x.ofThing(0, 4), 0);
    Due.is("and is alone", x.count(3), 1);
    Due.is("it has no fixer", x.ofThing(0, 5), NONE);
  }

  /** A fixer who is done in a minute, or gives up, is free in the next one, and no sooner. */
  private static void whoIsDoneTakesInTheNextMinute() {
    DonorParts x = new DonorParts();
    x.drawer(2, 0);
    x.fixer(1, 0);
    x.thing(0, 0, 3, 0);
    x.thing(0, 4, 4, 0);
    x.thing(0, 0, 5, 0);
    Due.is("one in a minute", x.pass(1), 1);
    Due.is("free", x.ofFixer(0, 2), NONE);
    Due.is("the next one waited meanwhile", x.ofThing(1, 2), 3);
    Due.is("given up in the next minute", x.pass(1), 0);
    Due.is("free again", x.ofFixer(0, 2), NONE);
    Due.is("the last one waited meanwhile", x.ofThing(2, 2), 3);
    Due.is("the last one", x.pass(1), 1);
  }

  /** "then each one who has one works on it for this minute, in the same order". */
  private static void workInTheSameOrder() {
    for (int first = 0; first < 2; first++) {
      DonorParts x = new DonorParts();
      x.fixer(first == 0 ? 1 : 2, 0);
      x.fixer(first == 0 ? 2 : 1, 0);
      x.thing(0, 2, 9, 0);
      x.thing(1, 2, 1, 0);
      // one part 1 for two: the lower fixer has it, whatever the patience of the things
      Due.is("one is repaired", x.pass(1), 1);
      Due.is("by fixer 0", x.ofFixer(0, 3), 1);
      Due.is("fixer 1 gives up", x.ofFixer(1, 4), 1);
      Due.is("thing " + first + " is repaired", x.ofThing(first, 4), 2);
      Due.is("thing " + (1 - first) + " is stripped", x.ofThing(1 - first, 4), 3);
    }
  }

  /** "then the patience of each thing that still waits becomes 1 less: when it is 0, its owner leaves with it". */
  private static void patienceLast() {
    DonorParts x = new DonorParts();
    x.fixer(1, 0);
    x.thing(0, 0, 1, 0);
    x.thing(0, 0, 1, 0);
    x.thing(0, 0, 2, 0);
    Due.is("one is repaired", x.pass(1), 1);
    Due.is("the first one was taken in time", x.ofThing(0, 4), 2);
    Due.is("the owner of the second left, though the fixer is free then", x.ofThing(1, 4), 4);
    Due.is("it has no patience", x.ofThing(1, 2), 0);
    Due.is("the third still waits", x.ofThing(2, 4), 0);
    Due.is("with a minute left", x.ofThing(2, 2), 1);
    Due.is("and is taken in it", x.pass(1), 1);
    Due.is("who left does not come again", x.ofThing(1, 2), 0);
    Due.is("its parts are not stripped", x.ofPart(0, 3), 0);
    Due.is("nor in the drawer", x.ofPart(0, 0), 1);
  }

  /** The same: "that still waits", and so not what is being repaired, or gone. */
  private static void whatIsTakenLosesNoPatience() {
    DonorParts x = new DonorParts();
    x.fixer(1, 1);
    x.thing(0, 7, 1, 0);
    x.thing(1, 0, 5, 0);
    x.thing(1, 0, 5, 0);
    x.giveUp(1);
    x.pass(2);
    Due.is("being repaired", x.ofThing(0, 2), 1);
    Due.is("stripped", x.ofThing(1, 2), 5);
    Due.is("waiting", x.ofThing(2, 2), 3);
    Due.is("repaired", x.pass(1), 1);
    x.pass(9);
    Due.is("repaired, then", x.ofThing(0, 2), 1);
    Due.is("repaired, then", x.ofThing(0, 4), 2);
    Due.is("stripped, then", x.ofThing(1, 4), 3);
  }
}
