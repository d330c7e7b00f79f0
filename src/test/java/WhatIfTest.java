/** Promises 12 to 14: what if. */
public final class WhatIfTest {
  private static final int NO_SUCH = -1, BAD_VALUE = -2, TOO_MANY = -4;

  public static void main(String[] args) {
    doneIn();
    doneInAsItComes();
    withFixer();
    withFixerIsRefused();
    bestCare();
    bestCareCountsAllKinds();
    bestCareInTheMinutesAlone();
    nothingChanges();
    Due.end();
  }

  private static void doneIn() {
    DonorParts x = new DonorParts();
    Due.is("12: thing 0", x.doneIn(0), NO_SUCH);
    x.thing(0, 0, 99, 0);
    x.thing(1, 0, 3, 0);
    x.thing(2, 28, 3, 0);
    Due.is("12: thing 3", x.doneIn(3), NO_SUCH);
    Due.is("12: thing -1", x.doneIn(-1), NO_SUCH);
    Due.is("12: its owner leaves at last", x.doneIn(0), 99);
    Due.is("12: its owner leaves soon", x.doneIn(1), 3);
    x.fixer(4, 0);
    Due.is("12: three parts", x.doneIn(2), 3);
    x.drawer(3, 0);
    Due.is("12: stripped in the second minute", x.doneIn(2), 2);
    x.giveUp(1);
    Due.is("12: stripped", x.doneIn(1), 0);
    x.drawer(3, 0);
    x.pass(2);
    Due.is("12: given up", x.doneIn(2), 0);
    x.pass(97);
    Due.is("12: left", x.doneIn(0), 0);
    Due.is("12: things that left", x.count(7), 1);
  }

  private static void doneInAsItComes() {
    DonorParts x = new DonorParts();
    x.fixer(63, 2);
    x.fixer(21, 5);
    for (int i = 0; i < 12; i++) {
      x.thing(i % 6, 7 << i % 6 & 41 * i, 5 + 3 * i % 17, i % 8);
    }
    for (int thing = 0; thing < 12; thing++) {
      int due = x.doneIn(thing);
      Due.holds("12: it takes a minute or more", due >= 1);
      x.save(0);
      if (due > 1) {
        x.pass(due - 1);
      }
      Due.holds("12: thing " + thing + " is still there before", x.ofThing(thing, 4) <= 1);
      x.pass(1);
      Due.holds("12: thing " + thing + " is gone then", x.ofThing(thing, 4) >= 2);
      x.restore(0);
    }
  }

  private static void withFixer() {
    DonorParts x = new DonorParts();
    x.thing(0, 0, 9, 0);
    x.thing(0, 0, 9, 0);
    x.thing(1, 0, 9, 0);
    x.thing(2, 0, 9, 0);
    Due.is("13: one minute", x.withFixer(63, 0, 1), 1);
    Due.is("13: three minutes", x.withFixer(63, 0, 3), 3);
    Due.is("13: 300 minutes", x.withFixer(63, 0, 300), 4);
    Due.is("13: one kind alone", x.withFixer(1, 0, 300), 2);
    Due.is("13: other kinds alone", x.withFixer(6, 0, 300), 2);
    Due.is("13: none of the kinds", x.withFixer(56, 0, 300), 0);
    x.fixer(1, 0);
    Due.is("13: with the one who is there", x.withFixer(6, 0, 2), 4);
    Due.is("13: the new one comes last", x.withFixer(1, 0, 1), 2);
    x.pass(1);
    Due.is("13: only what is repaired from now on", x.withFixer(63, 0, 300), 3);
    DonorParts y = new DonorParts();
    y.thing(0, 0, 9, 1);
    Due.is("13: care 0 fails", y.withFixer(63, 0, 1), 0);
    Due.is("13: care 1 passes", y.withFixer(63, 1, 1), 1);
    Due.is("13: care 9 fails", y.withFixer(63, 9, 2), 0);
    Due.is("13: care 9 takes three minutes", y.withFixer(63, 9, 3), 1);
  }

  private static void withFixerIsRefused() {
    DonorParts x = new DonorParts();
    Due.is("13: kinds 0", x.withFixer(0, 0, 1), BAD_VALUE);
    Due.is("13: kinds 64", x.withFixer(64, 0, 1), BAD_VALUE);
    Due.is("13: kinds -1", x.withFixer(-1, 0, 1), BAD_VALUE);
    Due.is("13: care -1", x.withFixer(1, -1, 1), BAD_VALUE);
    Due.is("13: care 10", x.withFixer(1, 10, 1), BAD_VALUE);
    Due.is("13: minutes 0", x.withFixer(1, 0, 0), BAD_VALUE);
    Due.is("13: minutes 301", x.withFixer(1, 0, 301), BAD_VALUE);
    Due.is("14: minutes 0", x.bestCare(0), BAD_VALUE);
    Due.is("14: minutes 301", x.bestCare(301), BAD_VALUE);
    Due.is("14: minutes -1", x.bestCare(-1), BAD_VALUE);
    for (int i = 0; i < 4; i++) {
      x.fixer(1, 1);
    }
    Due.is("13: a fifth one", x.withFixer(1, 0, 300), 0);
    Due.is("14: a fifth one", x.bestCare(300), 0);
    x.fixer(1, 1);
    Due.is("13: a sixth one", x.withFixer(1, 0, 1), TOO_MANY);
    Due.is("13: value before too many", x.withFixer(1, 0, 301), BAD_VALUE);
    Due.is("14: a sixth one", x.bestCare(1), TOO_MANY);
    Due.is("14: value before too many", x.bestCare(301), BAD_VALUE);
  }

  private static void bestCare() {
    DonorParts x = new DonorParts();
    Due.is("14: nothing to repair", x.bestCare(1), 0);
    x.thing(0, 0, 9, 1);
    Due.is("14: care 0 would fail", x.bestCare(1), 1);
    Due.is("14: in three minutes it would not matter", x.bestCare(3), 0);
    x.pass(1);
    // now 1 + care + 0: care 0 passes
    Due.is("14: a minute later", x.bestCare(1), 0);
    x.pass(1);
    Due.is("14: two minutes later", x.bestCare(1), 0);
    DonorParts y = new DonorParts();
    // the tests come in minutes 0 and 1, or 0, 1 and 2
    y.thing(1, 0, 9, 3);
    Due.is("14: 0 + care + 1 and 1 + care + 1 are to pass", y.bestCare(2), 0);
    DonorParts z = new DonorParts();
    z.thing(2, 0, 9, 3);
    // care 0: 2 passes, 3 fails; care 1: 3 fails; care 2: 4 and 5 pass
    Due.is("14: care 2", z.bestCare(2), 2);
  }

  private static void bestCareCountsAllKinds() {
    for (int kind = 0; kind < 6; kind++) {
      DonorParts x = new DonorParts();
      x.thing(kind, 0, 1, 1);
      int due = kind % 3 == 0 ? 1 : 0;
      Due.is("14: kind " + kind, x.bestCare(1), due);
    }
  }

  private static void bestCareInTheMinutesAlone() {
    DonorParts x = new DonorParts();
    x.thing(1, 0, 1, 0);
    x.thing(0, 0, 2, 1);
    // minute 0 repairs thing 0, minute 1 tests thing 1: 1 + care
    Due.is("14: one minute", x.bestCare(1), 0);
    Due.is("14: two minutes", x.bestCare(2), 0);
    x.thing(2, 0, 3, 1);
    // minute 2 tests thing 2: 2 + care + 2 too
    Due.is("14: three minutes", x.bestCare(3), 0);
    x.thing(3, 0, 4, 1);
    // minute 3 tests thing 3: 6 + care too; of 1 + c, 4 + c and 6 + c all pass with c = 1
    Due.is("14: four minutes", x.bestCare(4), 1);
  }

  private static void nothingChanges() {
    DonorParts x = new DonorParts();
    x.fixer(1, 0);
    x.thing(0, 1, 9, 3);
    x.thing(0, 1, 2, 3);
    x.doneIn(0);
    x.withFixer(63, 3, 30);
    x.bestCare(30);
    Due.is("12 to 14: nothing is recorded", x.count(9), 3);
    Due.is("12 to 14: no minute", x.count(0), 0);
    Due.is("12 to 14: no fixer", x.count(2), 1);
    Due.is("12 to 14: both wait", x.count(3), 2);
    Due.is("12 to 14: the drawer", x.ofPart(0, 0), 1);
    Due.is("12 to 14: the patience", x.ofThing(1, 2), 2);
    Due.is("12 to 14: the tests", x.ofThing(1, 3), 3);
  }
}
