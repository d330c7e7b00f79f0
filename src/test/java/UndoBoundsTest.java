import java.util.Arrays;

/** The bounds that promises 19 to 21 name, a test for each sentence, which stands above it. */
public final class UndoBoundsTest {
  private static final int BAD_VALUE = -2, NOT_POSSIBLE = -5, NONE = -6;

  public static void main(String[] args) {
    nothingToUndo();
    atMostSixStates();
    oldestIsDropped();
    againAndAgain();
    eachChangeIsRecorded();
    nothingIsDifferent();
    errorsRecordNothing();
    whatIsNoChange();
    ordersRecordNothing();
    padSlotsAndHistoryStay();
    everythingElseComesBack();
    whatComesBehindUndoIsNew();
    slots0And1();
    thingsWhenSaved();
    savedIsOverwritten();
    padAndHistoryAreNotSaved();
    nothingSaved();
    slotsOfRestore();
    slotKeepsIt();
    restoreIsAChange();
    restoreOfAFullCafe();
    Due.end();
  }

  /** 19: "Returns how many changes can be undone then; NOT_POSSIBLE if there is none." */
  private static void nothingToUndo() {
    DonorParts x = new DonorParts();
    Due.is("none", x.undo(), NOT_POSSIBLE);
    x.drawer(0, 5);
    Due.is("none is left behind the only one", x.undo(), 0);
    Due.is("none", x.undo(), NOT_POSSIBLE);
    Due.is("as at first", x.ofPart(0, 0), 1);
    x.drawer(0, 5);
    x.drawer(0, 6);
    Due.is("one is left behind two", x.undo(), 1);
    Due.is("5", x.ofPart(0, 0), 5);
  }

  /** 19: "A history of at most 6 states is kept". */
  private static void atMostSixStates() {
    for (int changes = 1; changes <= 15; changes++) {
      DonorParts x = new DonorParts();
      for (int i = 1; i <= changes; i++) {
        x.drawer(0, 10 + i);
      }
      int kept = Math.min(changes, 6);
      Due.is("kept of " + changes, x.count(9), kept);
      for (int i = kept - 1; i >= 0; i--) {
        Due.is("undo of " + changes, x.undo(), i);
        int before = changes - kept + i;
        Due.is("the state before it", x.ofPart(0, 0), before == 0 ? 1 : 10 + before);
      }
      Due.is("no more", x.undo(), NOT_POSSIBLE);
      Due.is("no more", x.count(9), 0);
    }
  }

  /** 19: "when one more is recorded, the oldest one is dropped": by each change that records. */
  private static void oldestIsDropped() {
    for (int which = 0; which < 7; which++) {
      DonorParts x = full();
      Due.is("six", x.count(9), 6);
      Due.holds("the seventh", change(x, which) >= 0);
      Due.is("six again", x.count(9), 6);
      for (int i = 5; i >= 0; i--) {
        Due.is("undo", x.undo(), i);
        Due.is("the drawer before it", x.ofPart(7, 0), 1 + i);
      }
      Due.is("no more", x.undo(), NOT_POSSIBLE);
      Due.is("the first one is dropped", x.ofPart(7, 0), 1);
    }
  }

  /** With a thing that waits, a text on the pad, and six changes of the drawer behind them: it has 0 to 6 of the part 7. */
  private static DonorParts full() {
    DonorParts x = new DonorParts();
    x.thing(0, 0, 50, 0);
    x.save(0);
    Due.write(x, "t5;t4");
    x.drawer(7, 0);
    for (int i = 1; i <= 6; i++) {
      x.drawer(7, i);
    }
    return x;
  }

  /** Each of the seven methods that are a change. */
  private static int change(DonorParts x, int which) {
    switch (which) {
      case 0: return x.thing(1, 0, 9, 0);
      case 1: return x.fixer(2, 0);
      case 2: return x.drawer(3, 9);
      case 3: return x.giveUp(0);
      case 4: return x.pass(5);
      case 5: return x.carryOut();
      default: return x.restore(0);
    }
  }

  /** The same over and over: a state that was undone or dropped does not come again. */
  private static void againAndAgain() {
    DonorParts x = new DonorParts();
    for (int round = 0; round < 12; round++) {
      for (int i = 0; i <= 8; i++) {
        x.drawer(0, 9 * (round % 10) + i);
      }
      for (int i = 5; i >= 1; i--) {
        Due.is("undo in round " + round, x.undo(), i);
        Due.is("before it in round " + round, x.ofPart(0, 0), 9 * (round % 10) + 2 + i);
      }
      Due.is("one is left", x.count(9), 1);
    }
    Due.is("the last one", x.undo(), 0);
    Due.is("before it", x.ofPart(0, 0), 9 + 2);
    Due.is("no more", x.undo(), NOT_POSSIBLE);
  }

  /** 19: "each method that is a change, and returns no error, records the state before it". */
  private static void eachChangeIsRecorded() {
    for (int which = 0; which < 7; which++) {
      DonorParts x = new DonorParts();
      x.thing(0, 0, 50, 0);
      x.save(0);
      Due.write(x, "t5;t4");
      x.fixer(1, 1);
      int[] before = Look.atCafe(x);
      Due.holds("a change", change(x, which) >= 0);
      Due.is("one more", x.count(9), 3);
      Due.holds("something is different", !Arrays.equals(Look.atCafe(x), before));
      Due.is("undone", x.undo(), 2);
      Due.holds("all is as before " + which, Arrays.equals(Look.atCafe(x), before));
    }
  }

  /** 19: "(also if nothing is different then)". */
  private static void nothingIsDifferent() {
    DonorParts x = new DonorParts();
    x.drawer(0, 1);
    Due.is("drawer", x.count(9), 1);
    x.save(0);
    x.restore(0);
    Due.is("restore", x.count(9), 2);
    Due.write(x, "t0");
    x.carryOut();
    Due.is("carryOut", x.count(9), 3);
    Due.write(x, "d0=1");
    x.carryOut();
    Due.is("carryOut", x.count(9), 4);
    x.drawer(0, 1);
    x.drawer(0, 1);
    x.drawer(0, 1);
    Due.is("six", x.count(9), 6);
    Due.is("undo", x.undo(), 5);
  }

  /** 19: "and returns no error": an error records nothing, and drops nothing. */
  private static void errorsRecordNothing() {
    DonorParts x = full();
    x.wipe();
    int[] errors = {x.thing(6, 0, 1, 0), x.thing(0, 0, 0, 0), x.fixer(0, 0), x.drawer(8, 0), x.drawer(0, 100),
        x.giveUp(1), x.giveUp(-1), x.pass(0), x.pass(100), x.carryOut(), x.restore(1), x.restore(2)};
    for (int error : errors) {
      Due.holds("an error", error < 0);
    }
    Due.is("six, as before", x.count(9), 6);
    for (int i = 5; i >= 0; i--) {
      Due.is("undo", x.undo(), i);
      Due.is("the drawer before it", x.ofPart(7, 0), i);
    }
  }

  /** 19: what is no change records nothing. */
  private static void whatIsNoChange() {
    DonorParts x = new DonorParts();
    x.fixer(1, 0);
    x.thing(0, 0, 9, 0);
    int[] answers = {x.ofThing(0, 0), x.ofFixer(0, 0), x.ofPart(0, 0), x.count(0), x.scarcest(), x.doneIn(0),
        x.withFixer(1, 0, 5), x.bestCare(5), x.put('t'), x.fault(), x.wipe(), x.save(0), x.save(1)};
    Due.is("all were asked", answers.length, 13);
    Due.is("two", x.count(9), 2);
    Due.is("undo is no change either", x.undo(), 1);
    Due.is("one", x.count(9), 1);
    Due.is("none", x.undo(), 0);
    Due.is("as at first", x.count(2), 0);
  }

  /** 19: "An order of a text records nothing by itself." */
  private static void ordersRecordNothing() {
    DonorParts x = new DonorParts();
    x.drawer(7, 5);
    Due.write(x, "d0=5;+0!9;f0^0;t1;t1;d0=6;d0=7;d0=8");
    Due.is("eight", x.carryOut(), 8);
    Due.is("two changes", x.count(9), 2);
    x.undo();
    Due.is("none of the orders", x.ofPart(0, 0) + x.count(0) + x.count(1) + x.count(2), 1);
    Due.is("but what was before", x.ofPart(7, 0), 5);
  }

  /** 19: "everything except the pad, the slots and the history is as it was before it". */
  private static void padSlotsAndHistoryStay() {
    DonorParts x = new DonorParts();
    x.drawer(0, 5);
    x.drawer(0, 6);
    x.save(0);
    Due.write(x, "t1;t");
    x.drawer(0, 7);
    Due.is("undo", x.undo(), 2);
    Due.is("the pad stays", x.fault(), 4);
    x.put('9');
    Due.is("undo", x.undo(), 1);
    Due.is("what was put stays", x.count(8), 5);
    Due.is("what was saved stays", x.restore(0), 0);
    Due.is("6", x.ofPart(0, 0), 6);
    x.drawer(0, 8);
    x.save(1);
    x.undo();
    x.save(0);
    Due.is("6 again", x.ofPart(0, 0), 6);
    x.undo();
    Due.is("5", x.ofPart(0, 0), 5);
    Due.is("saved behind it", x.restore(1), 0);
    Due.is("8", x.ofPart(0, 0), 8);
    Due.is("saved over it", x.restore(0), 0);
    Due.is("6", x.ofPart(0, 0), 6);
    Due.is("carried out", x.carryOut(), 2);
    Due.is("undone", x.undo() >= 0 ? x.count(8) : NONE, 0);
  }

  /** The same where there is as much as there can be. */
  private static void everythingElseComesBack() {
    DonorParts x = new DonorParts();
    for (int i = 0; i < 5; i++) {
      x.fixer(63 - i, 2 * i);
    }
    for (int i = 0; i < 8; i++) {
      x.thing(i % 6, i % 8 << i % 6, 3 + i, i * 3 % 8);
    }
    x.pass(4);
    int[] before = Look.atCafe(x);
    x.pass(20);
    Due.holds("all is different", !Arrays.equals(Look.atCafe(x), before));
    x.undo();
    Due.holds("all comes back", Arrays.equals(Look.atCafe(x), before));
  }

  /** The same: a thing or a fixer who comes behind it shows nothing of the one whose coming was undone. */
  private static void whatComesBehindUndoIsNew() {
    DonorParts x = new DonorParts();
    x.drawer(0, 9);
    x.drawer(1, 0);
    Due.write(x, "f0^0;+0:0!9?7;+0:1!9;t9;+0:0!9?7;t2");
    Due.is("all of it", x.carryOut(), 6);
    Due.is("it worked", x.ofFixer(0, 5), 9);
    Due.is("it repaired one", x.ofFixer(0, 3), 1);
    Due.is("it gave one up", x.ofFixer(0, 4), 1);
    Due.is("it is at work", x.ofThing(2, 5), 0);
    x.undo();
    int[] fixer = {4, 6, NONE, 0, 0, 0, NONE};
    x.fixer(4, 6);
    for (int what = 0; what < fixer.length; what++) {
      Due.is("a new fixer, what " + what, x.ofFixer(0, what), fixer[what]);
    }
    for (int thing = 0; thing < 3; thing++) {
      int[] due = {3, 8, 9, 2, 0, NONE, 0, 0, thing};
      x.thing(3, 8, 9, 2);
      for (int what = 0; what < due.length; what++) {
        Due.is("a new thing, what " + what, x.ofThing(thing, what), due[what]);
      }
    }
  }

  /** 20: "slot: 0 or 1", "BAD_VALUE if there is no such slot". */
  private static void slots0And1() {
    DonorParts x = new DonorParts();
    Due.is("-1", x.save(-1), BAD_VALUE);
    Due.is("0", x.save(0), 0);
    Due.is("1", x.save(1), 0);
    Due.is("2", x.save(2), BAD_VALUE);
    DonorParts y = new DonorParts();
    y.drawer(0, 5);
    y.save(0);
    y.drawer(0, 6);
    y.save(1);
    y.drawer(0, 7);
    y.restore(0);
    Due.is("what was saved in 0", y.ofPart(0, 0), 5);
    y.restore(1);
    Due.is("what was saved in 1", y.ofPart(0, 0), 6);
  }

  /** 20, 21: "Returns how many things there are (then)": 0 to 30, those that are gone too. */
  private static void thingsWhenSaved() {
    DonorParts x = new DonorParts();
    Due.is("none", x.save(0), 0);
    for (int i = 1; i <= 30; i++) {
      x.thing(0, 0, 1, 0);
      Due.is("things", x.save(1), i);
    }
    x.pass(1);
    Due.is("they all left, and are things", x.save(1), 30);
    Due.is("none then", x.restore(0), 0);
    Due.is("none", x.count(1), 0);
    Due.is("thirty then", x.restore(1), 30);
    Due.is("thirty", x.count(7), 30);
  }

  /** 20: "and overwrites what was saved there". */
  private static void savedIsOverwritten() {
    DonorParts x = new DonorParts();
    x.thing(0, 7, 50, 7);
    x.fixer(1, 1);
    x.save(0);
    x.save(1);
    x.undo();
    x.undo();
    x.drawer(0, 9);
    x.save(0);
    Due.is("no thing", x.restore(0), 0);
    Due.is("no fixer", x.count(2), 0);
    Due.is("9", x.ofPart(0, 0), 9);
    x.thing(5, 0, 5, 0);
    int[] due = {5, 0, 5, 0, 0, NONE, 0, 0, 0};
    for (int what = 0; what < due.length; what++) {
      Due.is("nothing of what was there, what " + what, x.ofThing(0, what), due[what]);
    }
    Due.is("the other slot is as it was", x.restore(1), 1);
    Due.is("with its fixer", x.count(2), 1);
  }

  /** 20: "Saves everything except the pad, the history and the slots". */
  private static void padAndHistoryAreNotSaved() {
    DonorParts x = new DonorParts();
    Due.write(x, "t1");
    x.drawer(0, 5);
    x.save(0);
    Due.write(x, ";t2;");
    x.drawer(0, 6);
    x.save(1);
    x.drawer(0, 7);
    Due.is("restored", x.restore(0), 0);
    Due.is("the pad stays", x.count(8), 6);
    Due.is("the history stays, and has one more", x.count(9), 4);
    x.restore(1);
    Due.is("the other slot stays", x.ofPart(0, 0), 6);
    x.wipe();
    x.restore(0);
    Due.is("the pad does not come back", x.count(8), 0);
    int[] before = {6, 5, 7, 6, 5, 1};
    for (int i = 0; i < 6; i++) {
      Due.is("undo", x.undo(), 5 - i);
      Due.is("before it", x.ofPart(0, 0), before[i]);
    }
  }

  /** 21: "NOT_POSSIBLE if nothing was saved in it": in each slot by itself, and also behind undo. */
  private static void nothingSaved() {
    for (int slot = 0; slot <= 1; slot++) {
      DonorParts x = new DonorParts();
      Due.is("nothing yet", x.restore(slot), NOT_POSSIBLE);
      x.save(1 - slot);
      Due.is("nothing in this one", x.restore(slot), NOT_POSSIBLE);
      Due.is("nothing is recorded", x.count(9), 0);
      x.save(slot);
      Due.is("what has no thing can be restored, too", x.restore(slot), 0);
      x.undo();
      Due.is("undo leaves it saved", x.restore(slot), 0);
    }
  }

  /** 21: "slot: 0 or 1", "BAD_VALUE if there is no such slot", also where nothing was saved. */
  private static void slotsOfRestore() {
    DonorParts x = new DonorParts();
    Due.is("-1", x.restore(-1), BAD_VALUE);
    Due.is("2", x.restore(2), BAD_VALUE);
    x.save(0);
    x.save(1);
    Due.is("-1", x.restore(-1), BAD_VALUE);
    Due.is("0", x.restore(0), 0);
    Due.is("1", x.restore(1), 0);
    Due.is("2", x.restore(2), BAD_VALUE);
  }

  /** 21: "Restores what was saved last in a slot, which keeps it." */
  private static void slotKeepsIt() {
    DonorParts x = new DonorParts();
    x.fixer(1, 1);
    x.thing(0, 3, 50, 1);
    x.thing(0, 4, 60, 2);
    x.pass(1);
    int[] saved = Look.atCafe(x);
    x.save(0);
    for (int i = 0; i < 3; i++) {
      x.pass(7);
      x.thing(1, 0, 9, 0);
      x.giveUp(2);
      x.drawer(3, 30 + i);
      Due.is("restored", x.restore(0), 2);
      Due.holds("as it was saved", Arrays.equals(Look.atCafe(x), saved));
    }
    x.undo();
    Due.is("before it was restored", x.ofPart(3, 0), 32);
    x.restore(0);
    Due.holds("undo leaves it as it was saved", Arrays.equals(Look.atCafe(x), saved));
  }

  /** 21: "This is a change." */
  private static void restoreIsAChange() {
    DonorParts x = new DonorParts();
    x.save(0);
    x.thing(0, 0, 9, 0);
    x.restore(0);
    Due.is("two", x.count(9), 2);
    Due.is("no thing", x.count(1), 0);
    Due.is("undone", x.undo(), 1);
    Due.is("the thing is there again", x.count(1), 1);
    Due.is("undone", x.undo(), 0);
    Due.is("no thing", x.count(1), 0);
  }

  /** The same with as much as there can be. */
  private static void restoreOfAFullCafe() {
    DonorParts x = new DonorParts();
    x.save(1);
    for (int i = 0; i < 5; i++) {
      x.fixer(63, i);
    }
    for (int i = 0; i < 30; i++) {
      x.thing(i % 6, 0, 99, 0);
    }
    x.pass(3);
    x.save(0);
    Due.is("an empty one", x.restore(1), 0);
    Due.is("no minute", x.count(0), 0);
    Due.is("no fixer", x.count(2), 0);
    Due.is("a full one", x.restore(0), 30);
    Due.is("three minutes", x.count(0), 3);
    Due.is("five fixers", x.count(2), 5);
    Due.is("fifteen are repaired", x.count(5), 15);
    Due.is("fifteen wait", x.count(3), 15);
    Due.is("each has repaired three", x.ofFixer(4, 3), 3);
    Due.is("the rest", x.pass(3), 15);
  }
}
