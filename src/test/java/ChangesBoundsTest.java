/** The bounds that promises 1 to 6 name, a test for each sentence, which stands above it. */
public final class ChangesBoundsTest {
  private static final int NO_SUCH = -1, BAD_VALUE = -2, TOO_MANY = -4, NOT_POSSIBLE = -5, NONE = -6;

  public static void main(String[] args) {
    withoutThingsAndFixers();
    errorsOfThing();
    thirtyOneThings();
    thirtyThingsThatAreGone();
    errorsOfFixer();
    sixFixers();
    drawerWith0And99();
    previousNumber();
    errorsOfDrawer();
    partsThatGoToTheDrawer();
    noRoomInTheDrawer();
    giveUpOfNoThing();
    giveUpOfAThingThatDoesNotWait();
    minutesOfPass();
    repairedInThem();
    upTo9999();
    ninetyNineUpTo9999();
    Due.end();
  }

  /** 1: "Creates a café without things and fixers." */
  private static void withoutThingsAndFixers() {
    DonorParts x = new DonorParts();
    for (int what = 0; what <= 9; what++) {
      Due.is("count(" + what + ")", x.count(what), 0);
    }
    Due.is("no thing", x.ofThing(0, 0), NO_SUCH);
    Due.is("no fixer", x.ofFixer(0, 0), NO_SUCH);
    Due.is("nothing to undo", x.undo(), NOT_POSSIBLE);
    Due.is("nothing saved in 0", x.restore(0), NOT_POSSIBLE);
    Due.is("nothing saved in 1", x.restore(1), NOT_POSSIBLE);
    Due.is("no text", x.fault(), 0);
    Due.is("minutes pass all the same", x.pass(1), 0);
  }

  /** 2: "NO_SUCH if there is no such kind; BAD_VALUE if another argument is out of range, or broken has a part that it has not; TOO_MANY .." */
  private static void errorsOfThing() {
    DonorParts x = new DonorParts();
    Due.is("the kind first", x.thing(6, 0, 0, 8), NO_SUCH);
    Due.is("the kind before its parts", x.thing(-1, 1, 1, 0), NO_SUCH);
    for (int kind = 0; kind < 6; kind++) {
      Due.is("the part below its own", x.thing(kind, 7 << kind | (1 << kind) >> 1, 9, 0), kind == 0 ? 0 : BAD_VALUE);
      Due.is("the part above its own", x.thing(kind, 1 << kind + 3, 9, 0), BAD_VALUE);
    }
    Due.is("a patience of 0", x.thing(0, 0, 0, 0), BAD_VALUE);
    Due.is("a patience of 1", x.thing(0, 0, 1, 0), 1);
    Due.is("a patience of 99", x.thing(0, 0, 99, 0), 2);
    Due.is("a patience of 100", x.thing(0, 0, 100, 0), BAD_VALUE);
    Due.is("tests of -1", x.thing(0, 0, 1, -1), BAD_VALUE);
    Due.is("tests of 0", x.thing(0, 0, 1, 0), 3);
    Due.is("tests of 7", x.thing(0, 0, 1, 7), 4);
    Due.is("tests of 8", x.thing(0, 0, 1, 8), BAD_VALUE);
    Due.is("all that was allowed came", x.count(1), 5);
  }

  /** 2: "TOO_MANY if there are 30 things", behind the other errors. */
  private static void thirtyOneThings() {
    DonorParts x = new DonorParts();
    for (int i = 0; i < 29; i++) {
      x.thing(0, 0, 99, 0);
    }
    Due.is("the 30th", x.thing(5, 224, 99, 7), 29);
    Due.is("the 31st", x.thing(5, 224, 99, 7), TOO_MANY);
    Due.is("no such kind", x.thing(6, 224, 99, 7), NO_SUCH);
    Due.is("a part of another kind", x.thing(5, 225, 99, 7), BAD_VALUE);
    Due.is("a patience of 0", x.thing(5, 224, 0, 7), BAD_VALUE);
    Due.is("a patience of 100", x.thing(5, 224, 100, 7), BAD_VALUE);
    Due.is("tests of 8", x.thing(5, 224, 99, 8), BAD_VALUE);
    x.undo();
    Due.is("29 again", x.count(1), 29);
    Due.is("and so one can come", x.thing(1, 0, 5, 0), 29);
    Due.is("it is the new one", x.ofThing(29, 0), 1);
  }

  /** 2: things that are gone are things, too. */
  private static void thirtyThingsThatAreGone() {
    DonorParts x = new DonorParts();
    x.fixer(1, 0);
    for (int i = 0; i < 30; i++) {
      x.thing(i % 3, 0, 40, 0);
    }
    for (int i = 1; i < 30; i += 3) {
      x.giveUp(i);
    }
    x.pass(40);
    Due.is("repaired", x.count(5), 10);
    Due.is("stripped", x.count(6), 10);
    Due.is("left", x.count(7), 10);
    Due.is("one more", x.thing(0, 0, 1, 0), TOO_MANY);
  }

  /** 3: "BAD_VALUE if an argument is out of range; TOO_MANY if there are 5 fixers." */
  private static void errorsOfFixer() {
    DonorParts x = new DonorParts();
    Due.is("kinds of 0", x.fixer(0, 5), BAD_VALUE);
    Due.is("kinds of 1", x.fixer(1, 5), 0);
    Due.is("kinds of 63", x.fixer(63, 5), 1);
    Due.is("kinds of 64", x.fixer(64, 5), BAD_VALUE);
    Due.is("a care of -1", x.fixer(5, -1), BAD_VALUE);
    Due.is("a care of 0", x.fixer(5, 0), 2);
    Due.is("a care of 9", x.fixer(5, 9), 3);
    Due.is("a care of 10", x.fixer(5, 10), BAD_VALUE);
    Due.is("all that was allowed came", x.count(2), 4);
  }

  /** The same, at the bound. */
  private static void sixFixers() {
    DonorParts x = new DonorParts();
    for (int i = 0; i < 4; i++) {
      x.fixer(1, 0);
    }
    Due.is("the fifth", x.fixer(63, 9), 4);
    Due.is("the sixth", x.fixer(63, 9), TOO_MANY);
    Due.is("kinds of 0 before too many", x.fixer(0, 9), BAD_VALUE);
    Due.is("kinds of 64 before too many", x.fixer(64, 9), BAD_VALUE);
    Due.is("a care of 10 before too many", x.fixer(63, 10), BAD_VALUE);
    Due.is("a care of -1 before too many", x.fixer(63, -1), BAD_VALUE);
    x.undo();
    Due.is("and so one can come", x.fixer(2, 3), 4);
    Due.is("it is the new one", x.ofFixer(4, 0), 2);
  }

  /** 4: "many: 0 to 99". */
  private static void drawerWith0And99() {
    for (int part = 0; part < 8; part++) {
      DonorParts x = new DonorParts();
      Due.is("-1", x.drawer(part, -1), BAD_VALUE);
      Due.is("100", x.drawer(part, 100), BAD_VALUE);
      Due.is("still 1", x.ofPart(part, 0), 1);
      Due.is("0", x.drawer(part, 0), 1);
      Due.is("there is none", x.ofPart(part, 0), 0);
      Due.is("99", x.drawer(part, 99), 0);
      Due.is("there are 99", x.ofPart(part, 0), 99);
    }
  }

  /** 4: "Returns the previous number". */
  private static void previousNumber() {
    DonorParts x = new DonorParts();
    Due.is("1 at first", x.drawer(3, 99), 1);
    Due.is("99", x.drawer(3, 0), 99);
    Due.is("0", x.drawer(3, 0), 0);
    Due.is("0 again", x.drawer(3, 7), 0);
    x.thing(3, 0, 9, 0);
    x.giveUp(0);
    Due.is("one more by a strip", x.drawer(3, 1), 8);
    x.fixer(8, 0);
    x.thing(3, 8, 9, 0);
    x.pass(1);
    Due.is("one less by an exchange", x.drawer(3, 1), 0);
    for (int part = 0; part < 8; part++) {
      Due.is("part " + part, x.ofPart(part, 0), part == 4 || part == 5 ? 2 : 1);
    }
  }

  /** 4: "NO_SUCH if there is no such part; BAD_VALUE if many is out of range." */
  private static void errorsOfDrawer() {
    DonorParts x = new DonorParts();
    Due.is("part -1", x.drawer(-1, 0), NO_SUCH);
    Due.is("part 8", x.drawer(8, 0), NO_SUCH);
    Due.is("the part before the number", x.drawer(-1, -1), NO_SUCH);
    Due.is("the part before the number", x.drawer(8, 100), NO_SUCH);
    Due.is("part 0", x.drawer(0, 3), 1);
    Due.is("part 7", x.drawer(7, 3), 1);
  }

  /** 5: "Returns how many parts go to the drawer": 0 to 3. */
  private static void partsThatGoToTheDrawer() {
    int[] broken = {0, 4, 20, 28};
    DonorParts x = new DonorParts();
    for (int i = 0; i < 4; i++) {
      x.thing(2, broken[i], 9, 7);
      Due.is("with " + i + " broken", x.giveUp(i), 3 - i);
      Due.is("stripped", x.ofThing(i, 4), 3);
    }
    Due.is("part 2", x.ofPart(2, 0), 2);
    Due.is("part 3", x.ofPart(3, 0), 4);
    Due.is("part 4", x.ofPart(4, 0), 3);
    Due.is("each was a change", x.count(9), 6);
  }

  /** 5: the same where the drawer has room for none. */
  private static void noRoomInTheDrawer() {
    DonorParts x = new DonorParts();
    x.drawer(5, 99);
    x.drawer(6, 99);
    x.drawer(7, 99);
    x.thing(5, 0, 9, 0);
    Due.is("none goes to it", x.giveUp(0), 0);
    Due.is("but it is stripped", x.ofThing(0, 4), 3);
    for (int part = 5; part <= 7; part++) {
      Due.is("99", x.ofPart(part, 0), 99);
      Due.is("stripped, without room", x.ofPart(part, 3), 1);
    }
  }

  /** 5: "NO_SUCH if there is no such thing". */
  private static void giveUpOfNoThing() {
    DonorParts x = new DonorParts();
    Due.is("0 of 0", x.giveUp(0), NO_SUCH);
    x.thing(0, 0, 9, 0);
    Due.is("1 of 1", x.giveUp(1), NO_SUCH);
    Due.is("-1", x.giveUp(-1), NO_SUCH);
    Due.is("0 of 1", x.giveUp(0), 3);
    for (int i = 1; i < 30; i++) {
      x.thing(0, 7, 9, 0);
    }
    Due.is("30 of 30", x.giveUp(30), NO_SUCH);
    Due.is("29 of 30", x.giveUp(29), 0);
  }

  /** 5: "NOT_POSSIBLE if it does not wait." */
  private static void giveUpOfAThingThatDoesNotWait() {
    DonorParts x = new DonorParts();
    x.fixer(1, 1);
    x.thing(0, 0, 9, 0);
    x.thing(0, 7, 10, 0);
    x.thing(1, 0, 1, 0);
    x.thing(1, 0, 9, 0);
    x.thing(1, 0, 9, 0);
    x.giveUp(3);
    x.pass(2);
    Due.is("repaired", x.giveUp(0), NOT_POSSIBLE);
    Due.is("being repaired", x.giveUp(1), NOT_POSSIBLE);
    Due.is("left", x.giveUp(2), NOT_POSSIBLE);
    Due.is("stripped", x.giveUp(3), NOT_POSSIBLE);
    Due.is("waits", x.giveUp(4), 3);
    Due.is("it waits no more", x.giveUp(4), NOT_POSSIBLE);
    Due.is("given up by no fixer", x.ofFixer(0, 4), 0);
    Due.is("and it has none", x.ofThing(4, 5), NONE);
  }

  /** 6: "minutes: 1 to 99". */
  private static void minutesOfPass() {
    DonorParts x = new DonorParts();
    Due.is("0", x.pass(0), BAD_VALUE);
    Due.is("100", x.pass(100), BAD_VALUE);
    Due.is("none passed", x.count(0), 0);
    Due.is("1", x.pass(1), 0);
    Due.is("one passed", x.count(0), 1);
    Due.is("99", x.pass(99), 0);
    Due.is("99 more", x.count(0), 100);
    x.thing(0, 0, 99, 0);
    x.pass(98);
    Due.is("each of them is a minute", x.ofThing(0, 2), 1);
  }

  /** 6: "Returns how many things are repaired in them": in these alone, from none to thirty. */
  private static void repairedInThem() {
    DonorParts x = new DonorParts();
    Due.is("no thing", x.pass(5), 0);
    for (int i = 0; i < 30; i++) {
      x.thing(i % 6, 0, 99, 0);
    }
    Due.is("no fixer", x.pass(1), 0);
    x.fixer(63, 0);
    Due.is("one", x.pass(1), 1);
    Due.is("three", x.pass(3), 3);
    x.fixer(63, 0);
    Due.is("two in a minute", x.pass(1), 2);
    Due.is("those that are left", x.pass(99), 24);
    Due.is("none more", x.pass(99), 0);
    Due.is("all", x.count(5), 30);
    DonorParts y = new DonorParts();
    for (int i = 0; i < 30; i++) {
      y.thing(0, 0, 99, 0);
    }
    for (int i = 0; i < 5; i++) {
      y.fixer(1, 0);
    }
    Due.is("five fixers in six minutes", y.pass(6), 30);
    DonorParts z = new DonorParts();
    z.thing(0, 0, 99, 0);
    z.thing(0, 1, 99, 0);
    z.drawer(0, 0);
    z.fixer(1, 0);
    Due.is("what is given up is not repaired", z.pass(2), 1);
  }

  /** 6: "NOT_POSSIBLE if there would be more than 9999 minutes", behind BAD_VALUE. */
  private static void upTo9999() {
    DonorParts x = new DonorParts();
    for (int i = 0; i < 100; i++) {
      x.pass(99);
    }
    x.pass(96);
    x.thing(0, 0, 99, 0);
    Due.is("9996 and 4", x.pass(4), NOT_POSSIBLE);
    Due.is("9996 and 99", x.pass(99), NOT_POSSIBLE);
    Due.is("9996 and 100", x.pass(100), BAD_VALUE);
    Due.is("none of them passed", x.count(0), 9996);
    Due.is("nor for the thing", x.ofThing(0, 2), 99);
    Due.is("9996 and 3", x.pass(3), 0);
    Due.is("9999", x.count(0), 9999);
    Due.is("9999 and 1", x.pass(1), NOT_POSSIBLE);
    Due.is("9999 and 0", x.pass(0), BAD_VALUE);
    Due.is("the thing waits", x.ofThing(0, 2), 96);
    Due.is("what is no pass() can still be done", x.giveUp(0), 3);
    x.undo();
    x.undo();
    Due.is("9996 again", x.count(0), 9996);
    Due.is("and so they can pass", x.pass(3), 0);
  }

  /** The same with as many at once as there can be. */
  private static void ninetyNineUpTo9999() {
    DonorParts x = new DonorParts();
    for (int i = 0; i < 100; i++) {
      Due.is("99 minutes", x.pass(99), 0);
    }
    x.save(0);
    Due.is("9900 and 99", x.pass(99), 0);
    Due.is("9999", x.count(0), 9999);
    x.restore(0);
    x.pass(1);
    Due.is("9901 and 99", x.pass(99), NOT_POSSIBLE);
    Due.is("9901 and 98", x.pass(98), 0);
    Due.is("9999 again", x.count(0), 9999);
  }
}
