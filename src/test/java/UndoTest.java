import java.util.Arrays;

/** Promises 19 to 21: undo and saving. */
public final class UndoTest {
  private static final int BAD_VALUE = -2, NOT_POSSIBLE = -5, NONE = -6;

  public static void main(String[] args) {
    undo();
    sixStates();
    errorsRecordNothing();
    everythingComesBack();
    eachChangeByItself();
    whatComesAfterUndoIsNew();
    padAndSlotsStay();
    save();
    restore();
    restoreIsAChange();
    slotsKeep();
    Due.end();
  }

  private static void undo() {
    DonorParts x = new DonorParts();
    Due.is("19: none", x.undo(), NOT_POSSIBLE);
    x.drawer(0, 5);
    x.drawer(0, 6);
    Due.is("19: one left", x.undo(), 1);
    Due.is("19: before it", x.ofPart(0, 0), 5);
    x.drawer(0, 7);
    Due.is("19: from there on", x.count(9), 2);
    Due.is("19: back", x.undo(), 1);
    Due.is("19: before it", x.ofPart(0, 0), 5);
    Due.is("19: none left", x.undo(), 0);
    Due.is("19: at first", x.ofPart(0, 0), 1);
    Due.is("19: no more", x.undo(), NOT_POSSIBLE);
    Due.is("19: no more", x.count(9), 0);
  }

  private static void sixStates() {
    DonorParts x = new DonorParts();
    for (int i = 2; i <= 20; i++) {
      x.drawer(0, i);
      Due.is("19: history", x.count(9), Math.min(i - 1, 6));
    }
    for (int i = 5; i >= 0; i--) {
      Due.is("19: undo", x.undo(), i);
      Due.is("19: before it", x.ofPart(0, 0), 14 + i);
    }
    Due.is("19: the older ones are dropped", x.undo(), NOT_POSSIBLE);
    Due.is("19: it stays", x.ofPart(0, 0), 14);
    for (int i = 0; i < 9; i++) {
      x.drawer(1, i);
      x.drawer(1, 50);
      x.undo();
    }
    Due.is("19: six, less one", x.count(9), 5);
    for (int i = 7; i >= 3; i--) {
      x.undo();
      Due.is("19: before it", x.ofPart(1, 0), i);
    }
  }

  private static void errorsRecordNothing() {
    DonorParts x = new DonorParts();
    x.drawer(0, 9);
    x.thing(6, 0, 1, 0);
    x.thing(0, 8, 1, 0);
    x.fixer(0, 0);
    x.drawer(8, 0);
    x.giveUp(0);
    x.pass(0);
    x.carryOut();
    x.restore(0);
    x.restore(2);
    x.undo();
    Due.is("19: nothing left", x.count(9), 0);
    Due.is("19: the drawer was the latest", x.ofPart(0, 0), 1);
    for (int i = 0; i < 6; i++) {
      x.drawer(0, 10 + i);
    }
    x.drawer(0, 100);
    x.giveUp(3);
    for (int i = 0; i < 6; i++) {
      x.undo();
    }
    Due.is("19: an error drops no state", x.ofPart(0, 0), 1);
  }

  /** With things of three sorts, and one fixer who works. */
  private static void begin(DonorParts x) {
    x.fixer(63, 2);
    x.thing(0, 1, 9, 7);
    x.thing(1, 2, 3, 0);
    x.thing(2, 4, 1, 0);
    x.pass(1);
  }

  private static void everythingComesBack() {
    comesBack("pass", x -> x.pass(2));
    comesBack("giveUp", x -> x.giveUp(1));
    comesBack("thing", x -> x.thing(3, 0, 9, 1));
    comesBack("fixer", x -> x.fixer(63, 5));
    comesBack("drawer", x -> x.drawer(5, 55));
    comesBack("carryOut", x -> {
      Due.write(x, "+1!5;t9;f0^5;d5=0;+1!0");
      return x.carryOut();
    });
    comesBack("restore", x -> x.restore(0));
  }

  private static void comesBack(String what, Twins.Call change) {
    DonorParts x = new DonorParts();
    x.save(0);
    begin(x);
    int[] before = Look.atCafe(x);
    Due.holds("19: " + what + " is a change", change.on(x) >= 0);
    Due.holds("19: " + what + " makes a difference", !Arrays.equals(Look.atCafe(x), before));
    Due.is("19: " + what + ": changes left", x.undo(), 5);
    same("19: " + what, x, before);
  }

  private static void same(String what, DonorParts x, int[] before) {
    int[] then = Look.atCafe(x);
    Due.is(what + ": as much", then.length, before.length);
    for (int i = 0; i < Math.min(then.length, before.length); i++) {
      Due.is(what + ": look " + i, then[i], before[i]);
    }
  }

  private static void eachChangeByItself() {
    DonorParts x = new DonorParts();
    for (int i = 0; i < 6; i++) {
      changeNumber(i, x);
    }
    for (int i = 5; i >= 0; i--) {
      Due.is("19: change " + i, x.undo(), i);
      DonorParts y = new DonorParts();
      for (int k = 0; k < i; k++) {
        changeNumber(k, y);
      }
      same("19: before change " + i, x, Look.atCafe(y));
    }
  }

  private static void changeNumber(int number, DonorParts x) {
    switch (number) {
      case 0:
        x.thing(0, 1, 9, 7);
        break;
      case 1:
        x.fixer(63, 2);
        break;
      case 2:
        x.thing(1, 0, 3, 0);
        break;
      case 3:
        x.giveUp(1);
        break;
      case 4:
        x.pass(2);
        break;
      default:
        x.drawer(4, 40);
    }
  }

  /** A place that was used before an undo shows nothing of what was in it. */
  private static void whatComesAfterUndoIsNew() {
    DonorParts x = new DonorParts();
    x.drawer(0, 9);
    Due.write(x, "f0^0;+0:0!9?7;+0!9;t8;+0:01!9?7;t2");
    Due.is("18: all of it", x.carryOut(), 6);
    x.undo();
    x.fixer(6, 5);
    int[] fixer = {6, 5, NONE, 0, 0, 0, NONE};
    for (int what = 0; what < fixer.length; what++) {
      Due.is("19: a new fixer, what " + what, x.ofFixer(0, what), fixer[what]);
    }
    for (int thing = 0; thing < 3; thing++) {
      x.thing(3, 8, 9, 2);
      int[] due = {3, 8, 9, 2, 0, NONE, 0, 0, thing};
      for (int what = 0; what < due.length; what++) {
        Due.is("19: a new thing " + thing + ", what " + what, x.ofThing(thing, what), due[what]);
      }
    }
  }

  private static void padAndSlotsStay() {
    DonorParts x = new DonorParts();
    x.drawer(0, 5);
    x.save(0);
    x.drawer(0, 6);
    x.save(1);
    Due.write(x, "t1");
    x.undo();
    x.undo();
    Due.is("19: the pad stays", x.count(8), 2);
    Due.is("19: slot 1 stays", x.restore(1), 0);
    Due.is("19: slot 1 stays", x.ofPart(0, 0), 6);
    x.restore(0);
    Due.is("19: slot 0 stays", x.ofPart(0, 0), 5);
    Due.is("19: the pad stays", x.fault(), NONE);
    x.wipe();
    x.undo();
    Due.is("19: the pad does not come back", x.count(8), 0);
  }

  private static void save() {
    DonorParts x = new DonorParts();
    Due.is("20: slot 2", x.save(2), BAD_VALUE);
    Due.is("20: slot -1", x.save(-1), BAD_VALUE);
    Due.is("20: an empty one", x.save(0), 0);
    x.thing(0, 0, 1, 0);
    x.thing(0, 0, 1, 0);
    Due.is("20: two things", x.save(0), 2);
    Due.is("20: two things", x.save(1), 2);
    Due.is("20: no change", x.count(9), 2);
    x.pass(1);
    Due.is("20: those that left too", x.save(1), 2);
    Due.is("20: both slots", x.restore(0), 2);
    Due.is("20: they wait there", x.count(3), 2);
    x.restore(1);
    Due.is("20: they left there", x.count(7), 2);
  }

  private static void restore() {
    DonorParts x = new DonorParts();
    Due.is("21: slot 2", x.restore(2), BAD_VALUE);
    Due.is("21: slot -1", x.restore(-1), BAD_VALUE);
    Due.is("21: nothing saved", x.restore(0), NOT_POSSIBLE);
    Due.is("21: nothing saved", x.restore(1), NOT_POSSIBLE);
    x.fixer(3, 3);
    x.thing(0, 1, 9, 2);
    x.pass(1);
    x.save(1);
    Due.is("21: not the other slot", x.restore(0), NOT_POSSIBLE);
    int[] before = Look.atCafe(x);
    x.thing(1, 2, 9, 2);
    x.fixer(3, 3);
    x.pass(5);
    x.drawer(3, 30);
    Due.write(x, "t1");
    Due.is("21: one thing", x.restore(1), 1);
    same("21: restore", x, before);
    Due.is("21: the pad stays", x.count(8), 2);
    Due.is("21: the history stays", x.count(9), 6);
  }

  private static void restoreIsAChange() {
    DonorParts x = new DonorParts();
    x.save(0);
    x.drawer(0, 8);
    Due.is("21: restored", x.restore(0), 0);
    Due.is("21: recorded", x.count(9), 2);
    Due.is("21: at first", x.ofPart(0, 0), 1);
    Due.is("21: undone", x.undo(), 1);
    Due.is("21: before it", x.ofPart(0, 0), 8);
    x.restore(0);
    x.restore(0);
    Due.is("21: also if nothing is different", x.count(9), 3);
  }

  private static void slotsKeep() {
    DonorParts x = new DonorParts();
    x.thing(0, 0, 50, 0);
    x.save(0);
    for (int i = 0; i < 3; i++) {
      Due.is("21: it keeps it", x.restore(0), 1);
      Due.is("21: as it was", x.ofThing(0, 2), 50);
      x.pass(10);
      x.thing(1, 0, 5, 0);
      Due.is("21: goes on from there", x.ofThing(0, 2), 40);
    }
    x.save(0);
    x.undo();
    Due.is("20: overwritten", x.restore(0), 2);
    Due.is("20: overwritten", x.ofThing(0, 2), 40);
  }
}
