/** The bounds that promises 12 to 14 name, a test for each sentence, which stands above it. */
public final class WhatIfBoundsTest {
  private static final int NO_SUCH = -1, BAD_VALUE = -2, TOO_MANY = -4;

  public static void main(String[] args) {
    zeroIfItIsSo();
    oneMinute();
    errorsOfDoneIn();
    asLongAsItCanTake();
    doneInAsMinutesPass();
    minutesOfWithFixer();
    errorsOfWithFixer();
    oneMoreThanFour();
    comesNow();
    minutesOfBestCare();
    errorsOfBestCare();
    leastOfSeveral();
    eachCare();
    ofAllKinds();
    boundOfMinutesDoesNotMatter();
    Due.end();
  }

  /** 12: "Returns how many (0 if it is so)". */
  private static void zeroIfItIsSo() {
    DonorParts x = new DonorParts();
    x.drawer(0, 0);
    x.fixer(1, 0);
    x.thing(0, 0, 8, 0);
    x.thing(0, 1, 9, 0);
    x.thing(1, 0, 9, 0);
    x.thing(1, 0, 2, 0);
    x.giveUp(2);
    x.pass(2);
    int[] how = {2, 3, 3, 4};
    for (int thing = 0; thing < 4; thing++) {
      Due.is("how " + thing + " is", x.ofThing(thing, 4), how[thing]);
      Due.is("it is so", x.doneIn(thing), 0);
    }
    x.pass(50);
    for (int thing = 0; thing < 4; thing++) {
      Due.is("it is still so", x.doneIn(thing), 0);
    }
  }

  /** 12: the least that it can take if it is not so. */
  private static void oneMinute() {
    DonorParts x = new DonorParts();
    x.drawer(2, 0);
    x.fixer(1, 0);
    x.fixer(4, 0);
    x.thing(0, 0, 99, 0);
    x.thing(2, 4, 99, 0);
    x.thing(1, 0, 1, 0);
    for (int thing = 0; thing < 3; thing++) {
      Due.is("repaired, given up, or left in a minute", x.doneIn(thing), 1);
    }
    x.pass(1);
    Due.is("repaired", x.ofThing(0, 4), 2);
    Due.is("given up", x.ofThing(1, 4), 3);
    Due.is("left", x.ofThing(2, 4), 4);
  }

  /** 12: "NO_SUCH if there is no such thing". */
  private static void errorsOfDoneIn() {
    DonorParts x = new DonorParts();
    Due.is("0 of 0", x.doneIn(0), NO_SUCH);
    Due.is("-1 of 0", x.doneIn(-1), NO_SUCH);
    x.thing(0, 0, 9, 0);
    Due.is("0 of 1", x.doneIn(0), 9);
    Due.is("1 of 1", x.doneIn(1), NO_SUCH);
    for (int i = 1; i < 30; i++) {
      x.thing(0, 0, 9, 0);
    }
    Due.is("29 of 30", x.doneIn(29), 9);
    Due.is("30 of 30", x.doneIn(30), NO_SUCH);
  }

  /**
   * 12: "NONE if it takes more than 500": no thing does. It waits for 98 minutes at most until it is taken, and its
   * repair takes ten at most: three parts, and two times a failed test, its part, and a test that passes, and the
   * third one; so that 108 is the most, and a number is due.
   */
  private static void asLongAsItCanTake() {
    DonorParts x = new DonorParts();
    for (int part = 0; part < 3; part++) {
      x.drawer(part, 99);
    }
    x.fixer(1, 0);
    x.thing(0, 7, 99, 7);
    // ten of these take 10 and 8 minutes by turns, 90 in all, then 3, 3 and 2
    for (int i = 0; i < 10; i++) {
      x.thing(0, 7, 98, 7);
    }
    x.thing(0, 7, 98, 0);
    x.thing(0, 7, 98, 0);
    x.thing(0, 3, 98, 0);
    x.thing(0, 0, 98, 0);
    x.thing(1, 0, 99, 0);
    Due.is("the last one that is taken in time", x.doneIn(13), 98);
    Due.is("the last one, taken in its last minute", x.doneIn(0), 108);
    Due.is("one that is not taken in time", x.doneIn(14), 98);
    Due.is("one that none can repair", x.doneIn(15), 99);
    x.pass(98);
    Due.is("so it is", x.ofThing(13, 4), 2);
    Due.is("so it is", x.ofThing(14, 4), 4);
    Due.is("it still waits", x.ofThing(0, 4), 0);
    Due.is("ten are left", x.doneIn(0), 10);
    x.pass(9);
    Due.is("it is being repaired", x.ofThing(0, 4), 1);
    Due.is("and then it is repaired", x.pass(1), 1);
  }

  /** 12: each minute that passes is one less. */
  private static void doneInAsMinutesPass() {
    DonorParts x = new DonorParts();
    x.drawer(0, 9);
    x.fixer(1, 2);
    x.thing(0, 7, 9, 7);
    x.thing(0, 0, 20, 0);
    for (int left = 10; left >= 0; left--) {
      Due.is("the first one", x.doneIn(0), left);
      Due.is("the one behind it", x.doneIn(1), left + 1);
      x.pass(1);
    }
    Due.is("not below 0", x.doneIn(0), 0);
  }

  /** 13: "minutes: 1 to 300". */
  private static void minutesOfWithFixer() {
    DonorParts x = new DonorParts();
    for (int i = 0; i < 30; i++) {
      x.thing(0, 0, 99, 0);
    }
    Due.is("0", x.withFixer(1, 0, 0), BAD_VALUE);
    for (int minutes = 1; minutes <= 40; minutes++) {
      Due.is("one in each of " + minutes, x.withFixer(1, 0, minutes), Math.min(minutes, 30));
    }
    Due.is("300", x.withFixer(1, 0, 300), 30);
    Due.is("301", x.withFixer(1, 0, 301), BAD_VALUE);
  }

  /** 13: "BAD_VALUE if an argument is out of range". */
  private static void errorsOfWithFixer() {
    DonorParts x = new DonorParts();
    x.thing(0, 0, 9, 0);
    x.thing(5, 0, 9, 0);
    Due.is("kinds of 0", x.withFixer(0, 0, 1), BAD_VALUE);
    Due.is("kinds of 1", x.withFixer(1, 0, 9), 1);
    Due.is("kinds of 63", x.withFixer(63, 0, 9), 2);
    Due.is("kinds of 64", x.withFixer(64, 0, 1), BAD_VALUE);
    Due.is("a care of -1", x.withFixer(1, -1, 1), BAD_VALUE);
    Due.is("a care of 0", x.withFixer(1, 0, 1), 1);
    Due.is("a care of 9", x.withFixer(1, 9, 1), 1);
    Due.is("a care of 10", x.withFixer(1, 10, 1), BAD_VALUE);
  }

  /** 13, 14: "TOO_MANY if there are 5 fixers", behind BAD_VALUE. */
  private static void oneMoreThanFour() {
    DonorParts x = new DonorParts();
    x.thing(0, 0, 9, 0);
    for (int i = 0; i < 4; i++) {
      x.fixer(32, 0);
      Due.is("one more", x.withFixer(1, 0, 300), 1);
      Due.is("one more", x.bestCare(300), 0);
    }
    x.fixer(32, 0);
    Due.is("a sixth", x.withFixer(1, 0, 300), TOO_MANY);
    Due.is("a sixth", x.bestCare(300), TOO_MANY);
    Due.is("kinds of 0", x.withFixer(0, 0, 300), BAD_VALUE);
    Due.is("kinds of 64", x.withFixer(64, 0, 300), BAD_VALUE);
    Due.is("a care of -1", x.withFixer(1, -1, 300), BAD_VALUE);
    Due.is("a care of 10", x.withFixer(1, 10, 300), BAD_VALUE);
    Due.is("0 minutes", x.withFixer(1, 0, 0), BAD_VALUE);
    Due.is("301 minutes", x.withFixer(1, 0, 301), BAD_VALUE);
    Due.is("0 minutes", x.bestCare(0), BAD_VALUE);
    Due.is("301 minutes", x.bestCare(301), BAD_VALUE);
  }

  /** 13: "if a fixer more came now": behind those who are there, and with the minute that comes next. */
  private static void comesNow() {
    DonorParts x = new DonorParts();
    x.fixer(1, 0);
    x.thing(0, 1, 9, 0);
    x.thing(0, 1, 9, 0);
    x.thing(1, 0, 9, 1);
    Due.is("the one part 0 goes to the one who is there", x.withFixer(1, 0, 9), 1);
    Due.is("but the new one repairs the other kind", x.withFixer(2, 0, 1), 2);
    Due.is("a test of the sum 3 fails", x.withFixer(2, 2, 1), 1);
    x.pass(1);
    Due.is("what is repaired before does not count", x.withFixer(1, 0, 9), 0);
    Due.is("a test of the sum 2 passes", x.withFixer(2, 0, 1), 1);
    Due.is("a test of the sum 3 fails", x.withFixer(2, 1, 1), 0);
    Due.is("none came", x.count(2), 1);
    DonorParts y = new DonorParts();
    y.fixer(1, 0);
    y.thing(0, 0, 1, 1);
    y.thing(0, 0, 2, 0);
    Due.is("the one who is there takes the thing whose test fails", y.withFixer(1, 1, 1), 1);
    DonorParts z = new DonorParts();
    z.thing(0, 0, 1, 1);
    z.thing(0, 0, 2, 0);
    Due.is("alone, the new one would take it, and it would pass", z.withFixer(1, 1, 2), 2);
  }

  /** 14: "minutes: 1 to 300". */
  private static void minutesOfBestCare() {
    DonorParts x = new DonorParts();
    x.thing(0, 0, 99, 1);
    Due.is("0", x.bestCare(0), BAD_VALUE);
    Due.is("1: a test of the sum 0 fails", x.bestCare(1), 1);
    Due.is("2: and is mended", x.bestCare(2), 1);
    Due.is("3: and passes", x.bestCare(3), 0);
    Due.is("300", x.bestCare(300), 0);
    Due.is("301", x.bestCare(301), BAD_VALUE);
  }

  /** 14: "BAD_VALUE if minutes is out of range". */
  private static void errorsOfBestCare() {
    DonorParts x = new DonorParts();
    Due.is("-1", x.bestCare(-1), BAD_VALUE);
    Due.is("the least", x.bestCare(Integer.MIN_VALUE), BAD_VALUE);
    Due.is("the most", x.bestCare(Integer.MAX_VALUE), BAD_VALUE);
    Due.is("no thing, and so none is better", x.bestCare(1), 0);
  }

  /** 14: "of several the least one": 0, 3, 6 and 9 are alike, and so are 1, 4 and 7, and 2, 5 and 8. */
  private static void leastOfSeveral() {
    DonorParts x = new DonorParts();
    x.thing(0, 0, 9, 0);
    Due.is("all are alike", x.bestCare(9), 0);
    DonorParts y = new DonorParts();
    y.thing(0, 0, 1, 1);
    Due.is("1, 2, 4, 5, 7 and 8", y.bestCare(1), 1);
    DonorParts z = new DonorParts();
    z.thing(2, 0, 1, 3);
    Due.is("2, 5 and 8", z.bestCare(2), 2);
  }

  /** 14: "Finds the care .. by which a fixer more .. would let the most things be repaired": by each minute at which it is asked. */
  private static void eachCare() {
    // a thing of the kind 0 with two tests passes them in two minutes if neither sum can be divided
    int[] best = {1, 0, 2};
    for (int minute = 0; minute < 6; minute++) {
      DonorParts x = new DonorParts();
      if (minute > 0) {
        x.pass(minute);
      }
      x.thing(0, 0, 9, 3);
      Due.is("asked before minute " + minute, x.bestCare(2), best[minute % 3]);
    }
  }

  /** 14: "a fixer more, of all kinds". */
  private static void ofAllKinds() {
    for (int kind = 0; kind < 6; kind++) {
      DonorParts x = new DonorParts();
      x.thing(kind, 0, 9, 3);
      // minutes 0 and 1: kind + care and kind + care + 1 are not to be divided
      Due.is("the kind " + kind, x.bestCare(2), new int[] {1, 0, 2}[kind % 3]);
    }
  }

  /** "what if; nothing changes (the bound of minutes does not matter)". */
  private static void boundOfMinutesDoesNotMatter() {
    DonorParts x = new DonorParts();
    for (int i = 0; i < 101; i++) {
      x.pass(99);
    }
    x.undo();
    x.thing(0, 0, 99, 0);
    x.thing(1, 0, 98, 1);
    Due.is("9900 and 99", x.doneIn(0), 99);
    x.pass(99);
    Due.is("9999", x.count(0), 9999);
    Due.is("the owner left", x.doneIn(0), 0);
    x.thing(0, 0, 99, 0);
    x.thing(0, 7, 9, 0);
    x.thing(0, 0, 9, 3);
    Due.is("behind 9999", x.doneIn(2), 99);
    Due.is("with one more", x.withFixer(1, 1, 1), 0);
    Due.is("with one more, for long", x.withFixer(1, 1, 300), 3);
    // three parts up to 10001; 10002 can be divided, and so a care of 0 fails, and one of 2 in the minute behind it
    Due.is("the best one", x.bestCare(5), 1);
    Due.is("no minute more", x.count(0), 9999);
    x.fixer(1, 1);
    Due.is("three parts", x.doneIn(3), 3);
    Due.is("two tests behind them", x.doneIn(4), 5);
  }
}
