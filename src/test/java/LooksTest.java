/** Promises 7 to 11: what there is. */
public final class LooksTest {
  private static final int NO_SUCH = -1, BAD_VALUE = -2, NONE = -6;

  public static void main(String[] args) {
    ofThing();
    places();
    ofFixer();
    ofPart();
    counts();
    scarcest();
    nothingChanges();
    Due.end();
  }

  private static void ofThing() {
    DonorParts x = new DonorParts();
    x.thing(4, 80, 20, 3);
    Due.is("7: thing 1", x.ofThing(1, 0), NO_SUCH);
    Due.is("7: thing -1", x.ofThing(-1, 0), NO_SUCH);
    Due.is("7: thing 30", x.ofThing(30, 0), NO_SUCH);
    Due.is("7: thing far", x.ofThing(Integer.MAX_VALUE, 0), NO_SUCH);
    Due.is("7: thing before what", x.ofThing(1, 9), NO_SUCH);
    Due.is("7: what 9", x.ofThing(0, 9), BAD_VALUE);
    Due.is("7: what -1", x.ofThing(0, -1), BAD_VALUE);
    x.fixer(16, 8);
    x.fixer(16, 8);
    x.pass(1);
    int[] due = {4, 64, 20, 3, 1, 0, 0, 1, NONE};
    for (int what = 0; what < due.length; what++) {
      Due.is("7: in repair, what " + what, x.ofThing(0, what), due[what]);
    }
    // minute 1 exchanges part 6; in minute 2, 2 + 8 + 4 is not divided; in minute 3, 15 is
    x.pass(3);
    int[] then = {4, 16, 20, 2, 1, 0, 1, 2, NONE};
    for (int what = 0; what < then.length; what++) {
      Due.is("7: a test failed, what " + what, x.ofThing(0, what), then[what]);
    }
  }

  private static void places() {
    DonorParts x = new DonorParts();
    x.thing(0, 0, 5, 0);
    x.thing(1, 0, 3, 0);
    x.thing(2, 0, 5, 0);
    x.thing(3, 0, 9, 0);
    int[] due = {1, 0, 2, 3};
    for (int thing = 0; thing < due.length; thing++) {
      Due.is("7: place of " + thing, x.ofThing(thing, 8), due[thing]);
    }
    x.giveUp(0);
    int[] then = {NONE, 0, 1, 2};
    for (int thing = 0; thing < then.length; thing++) {
      Due.is("7: place of " + thing + " then", x.ofThing(thing, 8), then[thing]);
    }
    x.fixer(8, 0);
    x.pass(1);
    Due.is("7: repaired, no place", x.ofThing(3, 8), NONE);
    x.pass(2);
    Due.is("7: left, no place", x.ofThing(1, 8), NONE);
    Due.is("7: the only one", x.ofThing(2, 8), 0);
  }

  private static void ofFixer() {
    DonorParts x = new DonorParts();
    x.fixer(6, 4);
    Due.is("8: fixer 1", x.ofFixer(1, 0), NO_SUCH);
    Due.is("8: fixer -1", x.ofFixer(-1, 0), NO_SUCH);
    Due.is("8: fixer before what", x.ofFixer(1, 7), NO_SUCH);
    Due.is("8: what 7", x.ofFixer(0, 7), BAD_VALUE);
    Due.is("8: what -1", x.ofFixer(0, -1), BAD_VALUE);
    x.thing(0, 0, 1, 0);
    Due.is("8: none of its kinds", x.ofFixer(0, 6), NONE);
    x.thing(2, 4, 9, 0);
    x.thing(1, 6, 3, 0);
    x.thing(2, 0, 3, 0);
    Due.is("8: next", x.ofFixer(0, 6), 2);
    x.pass(1);
    int[] due = {6, 4, 2, 0, 0, 1, 3};
    for (int what = 0; what < due.length; what++) {
      Due.is("8: at work, what " + what, x.ofFixer(0, what), due[what]);
    }
    // part 2 goes to thing 2, thing 3 needs nothing, and thing 1 finds no part any more
    x.pass(3);
    int[] then = {6, 4, NONE, 2, 1, 4, NONE};
    for (int what = 0; what < then.length; what++) {
      Due.is("8: all done, what " + what, x.ofFixer(0, what), then[what]);
    }
  }

  private static void ofPart() {
    DonorParts x = new DonorParts();
    Due.is("9: part 8", x.ofPart(8, 0), NO_SUCH);
    Due.is("9: part -1", x.ofPart(-1, 0), NO_SUCH);
    Due.is("9: part before what", x.ofPart(8, 4), NO_SUCH);
    Due.is("9: what 4", x.ofPart(0, 4), BAD_VALUE);
    Due.is("9: what -1", x.ofPart(0, -1), BAD_VALUE);
    x.thing(0, 7, 5, 0);
    x.thing(1, 6, 4, 0);
    x.thing(2, 4, 3, 0);
    x.thing(2, 4, 1, 0);
    Due.is("9: one broken part 0", x.ofPart(0, 1), 1);
    Due.is("9: two broken parts 1", x.ofPart(1, 1), 2);
    Due.is("9: four broken parts 2", x.ofPart(2, 1), 4);
    Due.is("9: no broken part 3", x.ofPart(3, 1), 0);
    x.fixer(2, 0);
    x.pass(1);
    Due.is("9: one left with its owner", x.ofPart(2, 1), 3);
    Due.is("9: one is exchanged", x.ofPart(1, 1), 1);
    Due.is("9: exchanged so far", x.ofPart(1, 2), 1);
    Due.is("9: out of the drawer", x.ofPart(1, 0), 0);
    Due.is("9: no other was", x.ofPart(2, 2), 0);
    x.giveUp(2);
    Due.is("9: one in a stripped thing", x.ofPart(2, 1), 2);
    Due.is("9: part 3 stripped", x.ofPart(3, 3), 1);
    Due.is("9: part 4 in the drawer", x.ofPart(4, 0), 2);
    Due.is("9: part 2 not stripped", x.ofPart(2, 3), 0);
  }

  private static void counts() {
    DonorParts x = new DonorParts();
    Due.is("10: what -1", x.count(-1), BAD_VALUE);
    Due.is("10: what 10", x.count(10), BAD_VALUE);
    x.fixer(2, 1);
    x.fixer(4, 1);
    x.thing(0, 0, 9, 0);
    x.thing(0, 0, 9, 0);
    x.thing(0, 0, 9, 0);
    x.thing(0, 0, 9, 0);
    x.thing(1, 0, 9, 7);
    x.thing(1, 0, 9, 0);
    x.thing(2, 0, 4, 0);
    x.thing(2, 0, 3, 0);
    x.thing(3, 0, 1, 0);
    x.thing(3, 0, 1, 0);
    x.thing(3, 0, 1, 0);
    x.giveUp(0);
    x.pass(2);
    Due.write(x, "t1;t2");
    int[] due = {2, 11, 2, 4, 1, 2, 1, 3, 5, 6};
    for (int what = 0; what < due.length; what++) {
      Due.is("10: count(" + what + ")", x.count(what), due[what]);
    }
  }

  private static void scarcest() {
    DonorParts x = new DonorParts();
    x.thing(0, 7, 9, 0);
    Due.is("11: as many as are broken", x.scarcest(), NONE);
    x.thing(1, 12, 9, 0);
    Due.is("11: part 2", x.scarcest(), 2);
    x.thing(3, 8, 9, 0);
    Due.is("11: of several the lowest", x.scarcest(), 2);
    x.drawer(3, 0);
    Due.is("11: the most", x.scarcest(), 3);
    x.drawer(0, 0);
    x.drawer(7, 0);
    x.drawer(3, 99);
    Due.is("11: part 0", x.scarcest(), 0);
    x.giveUp(0);
    Due.is("11: what is stripped misses nothing", x.scarcest(), NONE);
    x.thing(5, 128, 1, 0);
    Due.is("11: the last part", x.scarcest(), 7);
    x.fixer(32, 0);
    x.drawer(5, 1);
    x.thing(5, 224, 1, 0);
    x.drawer(5, 1);
    x.pass(1);
    Due.is("11: what is given up and left misses nothing", x.scarcest(), NONE);
    DonorParts y = new DonorParts();
    y.thing(0, 6, 9, 0);
    y.thing(0, 4, 9, 0);
    y.fixer(1, 0);
    y.pass(1);
    Due.is("11: what is being repaired counts", y.scarcest(), 2);
  }

  private static void nothingChanges() {
    DonorParts x = new DonorParts();
    x.fixer(1, 0);
    x.thing(0, 1, 9, 3);
    for (int what = -1; what <= 10; what++) {
      x.ofThing(0, what);
      x.ofFixer(0, what);
      x.ofPart(0, what);
      x.count(what);
      x.scarcest();
    }
    Due.is("7 to 11: nothing is recorded", x.count(9), 2);
    Due.is("7 to 11: nothing passed", x.count(0), 0);
    Due.is("7 to 11: nothing taken", x.ofThing(0, 4), 0);
  }
}
