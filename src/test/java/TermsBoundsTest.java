/** The bounds that the document names in its terms, a test for each sentence, which stands above it. */
public final class TermsBoundsTest {
  private static final int NO_SUCH = -1, BAD_VALUE = -2, TOO_MANY = -4, NONE = -6;

  public static void main(String[] args) {
    kindsOfThings();
    kindsOfParts();
    partsOfEachKind();
    goodAndBroken();
    drawerAtFirst();
    drawerUpTo99();
    drawerDownTo0();
    thirtyThings();
    nothingBroken();
    patience();
    tests();
    howAThingIs();
    fiveFixers();
    kindsOfAFixer();
    care();
    Due.end();
  }

  /** "There are 6 kinds of things, 0 to 5". */
  private static void kindsOfThings() {
    for (int kind = -2; kind <= 8; kind++) {
      DonorParts x = new DonorParts();
      boolean is = kind >= 0 && kind <= 5;
      Due.is("a thing of the kind " + kind, x.thing(kind, 0, 1, 0), is ? 0 : NO_SUCH);
      Due.is("its kind", x.ofThing(0, 0), is ? kind : NO_SUCH);
    }
  }

  /** "8 kinds of parts, 0 to 7". */
  private static void kindsOfParts() {
    for (int part = -2; part <= 10; part++) {
      DonorParts x = new DonorParts();
      boolean is = part >= 0 && part <= 7;
      Due.is("ofPart(" + part + ", 0)", x.ofPart(part, 0), is ? 1 : NO_SUCH);
      Due.is("drawer(" + part + ", 5)", x.drawer(part, 5), is ? 1 : NO_SUCH);
      Due.is("ofPart(" + part + ", 0) then", x.ofPart(part, 0), is ? 5 : NO_SUCH);
    }
  }

  /**
   * "A thing of the kind k has one part each of the kinds k, k + 1 and k + 2 (the part 8 is 0 again)". The kind 5, with
   * 5, 6 and 7, comes nearest to the part 8: it has no part 0.
   */
  private static void partsOfEachKind() {
    for (int kind = 0; kind < 6; kind++) {
      for (int set = 0; set < 512; set++) {
        boolean own = true;
        for (int part = 0; part < 9; part++) {
          boolean has = part == kind || part == kind + 1 || part == kind + 2;
          own &= has || (set >> part) % 2 == 0;
        }
        DonorParts x = new DonorParts();
        Due.is("kind " + kind + ", broken " + set, x.thing(kind, set, 9, 0), own ? 0 : BAD_VALUE);
      }
      DonorParts y = new DonorParts();
      y.thing(kind, 0, 9, 0);
      Due.is("the parts of the kind " + kind, y.giveUp(0), 3);
      for (int part = 0; part < 8; part++) {
        Due.is("part " + part + " of it", y.ofPart(part, 3), part >= kind && part <= kind + 2 ? 1 : 0);
      }
    }
  }

  /** "A part is good or broken." */
  private static void goodAndBroken() {
    for (int kind = 0; kind < 6; kind++) {
      for (int set = 0; set < 8; set++) {
        DonorParts x = new DonorParts();
        x.thing(kind, set << kind, 9, 0);
        for (int i = 0; i < 3; i++) {
          Due.is("broken ones of " + (kind + i), x.ofPart(kind + i, 1), set >> i & 1);
        }
        Due.is("good ones", x.giveUp(0), 3 - Integer.bitCount(set));
        for (int i = 0; i < 3; i++) {
          Due.is("in the drawer of " + (kind + i), x.ofPart(kind + i, 0), 2 - (set >> i & 1));
        }
      }
    }
  }

  /** "There is a drawer with good parts (.. 1 at first)." */
  private static void drawerAtFirst() {
    DonorParts x = new DonorParts();
    for (int part = 0; part < 8; part++) {
      Due.is("part " + part + " at first", x.ofPart(part, 0), 1);
    }
  }

  /** "There is a drawer with good parts (0 to 99 of each kind ..)"; stripped parts go to it, "but no more than 99 of a kind". */
  private static void drawerUpTo99() {
    for (int part = 2; part <= 5; part++) {
      DonorParts x = new DonorParts();
      x.drawer(part, 98);
      x.thing(part, 0, 9, 0);
      x.thing(part - 1, 0, 9, 0);
      x.thing(part - 2, 0, 9, 0);
      Due.is("the 99th part has room", x.giveUp(0), 3);
      Due.is("there are 99", x.ofPart(part, 0), 99);
      Due.is("a hundredth has no room", x.giveUp(1), 2);
      Due.is("there are still 99", x.ofPart(part, 0), 99);
      Due.is("nor has one more", x.giveUp(2), 2);
      Due.is("there are 99 again", x.ofPart(part, 0), 99);
      Due.is("all three are stripped", x.ofPart(part, 3), 3);
    }
  }

  /** The same in the strip of what a fixer gives up, and down to 0: the last part is exchanged, and then there is none. */
  private static void drawerDownTo0() {
    DonorParts x = new DonorParts();
    x.drawer(1, 99);
    x.drawer(2, 98);
    x.fixer(1, 0);
    x.thing(0, 1, 8, 0);
    x.thing(0, 1, 9, 0);
    Due.is("the last part 0", x.pass(1), 1);
    Due.is("there is none", x.ofPart(0, 0), 0);
    Due.is("none to exchange", x.pass(1), 0);
    Due.is("so it is stripped", x.ofThing(1, 4), 3);
    Due.is("not below 0", x.ofPart(0, 0), 0);
    Due.is("one was exchanged", x.ofPart(0, 2), 1);
    Due.is("no room for part 1", x.ofPart(1, 0), 99);
    Due.is("part 1 was stripped", x.ofPart(1, 3), 1);
    Due.is("room for part 2", x.ofPart(2, 0), 99);
  }

  /** "There are up to 30 things, numbered in the order in which they came." */
  private static void thirtyThings() {
    DonorParts x = new DonorParts();
    for (int i = 0; i < 30; i++) {
      Due.is("things before", x.count(1), i);
      Due.is("number " + i + " has not come", x.ofThing(i, 2), NO_SUCH);
      Due.is("thing " + i, x.thing(i % 6, 0, 1 + i, 0), i);
      Due.is("number " + i + " is it", x.ofThing(i, 2), 1 + i);
    }
    Due.is("the 31st", x.thing(0, 0, 1, 0), TOO_MANY);
    Due.is("things then", x.count(1), 30);
    Due.is("number 30", x.ofThing(30, 2), NO_SUCH);
    Due.is("the first one is as it was", x.ofThing(0, 2), 1);
  }

  /** "the set of its parts that are broken (of its own kinds; it can be empty)". */
  private static void nothingBroken() {
    for (int kind = 0; kind < 6; kind++) {
      DonorParts x = new DonorParts();
      Due.is("none is broken", x.thing(kind, 0, 9, 0), 0);
      Due.is("none", x.ofThing(0, 1), 0);
      Due.is("all are broken", x.thing(kind, 7 << kind, 9, 0), 1);
      Due.is("all", x.ofThing(1, 1), 7 << kind);
    }
  }

  /** "a patience (1 to 99 minutes)". */
  private static void patience() {
    for (int patience = -1; patience <= 101; patience++) {
      DonorParts x = new DonorParts();
      boolean is = patience >= 1 && patience <= 99;
      Due.is("patience " + patience, x.thing(0, 0, patience, 0), is ? 0 : BAD_VALUE);
      Due.is("its patience", x.ofThing(0, 2), is ? patience : NO_SUCH);
      if (patience > 1 && is) {
        x.pass(patience - 1);
        Due.is("it still waits", x.ofThing(0, 4), 0);
        Due.is("a minute is left", x.ofThing(0, 2), 1);
      }
      if (is) {
        x.pass(1);
        Due.is("its owner left", x.ofThing(0, 4), 4);
        Due.is("no minute is left", x.ofThing(0, 2), 0);
      }
    }
  }

  /** "and tests (0 to 7), a set of three tests that it does not pass at first (bit 0, 1, 2)". */
  private static void tests() {
    for (int tests = -2; tests <= 9; tests++) {
      DonorParts x = new DonorParts();
      boolean is = tests >= 0 && tests <= 7;
      Due.is("tests " + tests, x.thing(1, 0, 9, tests), is ? 0 : BAD_VALUE);
      Due.is("its tests", x.ofThing(0, 3), is ? tests : NO_SUCH);
    }
  }

  /** "It waits (0), is being repaired (1), is repaired and gone (2), is stripped (3), or its owner left with it (4)." */
  private static void howAThingIs() {
    DonorParts x = new DonorParts();
    x.fixer(1, 1);
    x.thing(0, 3, 9, 0);
    x.thing(1, 0, 2, 0);
    x.thing(2, 0, 9, 0);
    Due.is("it waits", x.ofThing(0, 4), 0);
    x.giveUp(2);
    x.pass(1);
    Due.is("it is being repaired", x.ofThing(0, 4), 1);
    Due.is("it still waits", x.ofThing(1, 4), 0);
    x.pass(1);
    Due.is("it is repaired and gone", x.ofThing(0, 4), 2);
    Due.is("it is stripped", x.ofThing(2, 4), 3);
    Due.is("its owner left with it", x.ofThing(1, 4), 4);
    x.pass(9);
    Due.is("what is repaired stays so", x.ofThing(0, 4), 2);
    Due.is("what is stripped stays so", x.ofThing(2, 4), 3);
    Due.is("who left stays away", x.ofThing(1, 4), 4);
  }

  /** "There are up to 5 fixers, numbered in the order in which they came". */
  private static void fiveFixers() {
    DonorParts x = new DonorParts();
    for (int i = 0; i < 5; i++) {
      Due.is("fixers before", x.count(2), i);
      Due.is("number " + i + " has not come", x.ofFixer(i, 1), NO_SUCH);
      Due.is("fixer " + i, x.fixer(63, 9 - i), i);
      Due.is("number " + i + " is this one", x.ofFixer(i, 1), 9 - i);
    }
    Due.is("the sixth", x.fixer(63, 0), TOO_MANY);
    Due.is("fixers then", x.count(2), 5);
    Due.is("number 5", x.ofFixer(5, 1), NO_SUCH);
    Due.is("the first one is as before", x.ofFixer(0, 1), 9);
  }

  /** "with a set of kinds of things that they can repair": 1 to 63, bit k for the kind k. */
  private static void kindsOfAFixer() {
    for (int kinds = -2; kinds <= 66; kinds++) {
      DonorParts x = new DonorParts();
      boolean is = kinds >= 1 && kinds <= 63;
      Due.is("kinds " + kinds, x.fixer(kinds, 0), is ? 0 : BAD_VALUE);
      Due.is("the kinds", x.ofFixer(0, 0), is ? kinds : NO_SUCH);
      for (int kind = 0; is && kind < 6; kind++) {
        DonorParts y = new DonorParts();
        y.fixer(kinds, 0);
        y.thing(kind, 0, 9, 0);
        boolean can = (kinds >> kind) % 2 == 1;
        Due.is("would take the kind " + kind, y.ofFixer(0, 6), can ? 0 : NONE);
        Due.is("repairs the kind " + kind, y.pass(1), can ? 1 : 0);
      }
    }
  }

  /** "and a care (0 to 9)". */
  private static void care() {
    for (int care = -2; care <= 12; care++) {
      DonorParts x = new DonorParts();
      boolean is = care >= 0 && care <= 9;
      Due.is("care " + care, x.fixer(1, care), is ? 0 : BAD_VALUE);
      Due.is("the care", x.ofFixer(0, 1), is ? care : NO_SUCH);
    }
  }
}
