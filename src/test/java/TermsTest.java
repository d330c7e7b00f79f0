import java.util.Arrays;

/**
 * The sentences of the document's terms that say what a call answers or changes and name no bound, a test for each, in
 * the document's order; the sentence stands above it. Those that name a bound are in the tests of bounds.
 */
public final class TermsTest {
  private static final int NO_SUCH = -1, BAD_VALUE = -2, BAD_TEXT = -3, TOO_MANY = -4, NOT_POSSIBLE = -5, NONE = -6;

  public static void main(String[] args) {
    errorCodes();
    firstErrorThatApplies();
    errorsChangeNothing();
    noneIfNoErrorApplies();
    numberedFrom0();
    setsAreBitMasks();
    aThingComesWith();
    aFixerHas();
    whoIsFree();
    oneAfterTheOther();
    eachPartOfAMinute();
    ordersThatAreThings();
    ordersThatAreFixers();
    ordersThatAreDrawers();
    ordersThatAreMinutes();
    readFromLeftToRight();
    constants();
    nothingChangesByWhatIfs();
    Due.end();
  }

  /** "A method that fails returns one of the error codes NO_SUCH (-1), BAD_VALUE (-2), BAD_TEXT (-3), TOO_MANY (-4) and NOT_POSSIBLE (-5)". */
  private static void errorCodes() {
    DonorParts x = new DonorParts();
    Due.is("no such thing", x.giveUp(0), -1);
    Due.is("a value out of range", x.pass(0), -2);
    Due.is("a text with a fault", x.carryOut(), -3);
    Due.is("no change", x.undo(), -5);
    for (int i = 0; i < 5; i++) {
      x.fixer(1, 1);
    }
    Due.is("too many", x.fixer(1, 1), -4);
  }

  /** "it names its errors in the order in which they are checked, and the first one that applies is returned". */
  private static void firstErrorThatApplies() {
    DonorParts x = crowded(101);
    Due.is("thing: all three", x.thing(6, 512, 0, 8), NO_SUCH);
    Due.is("thing: the last two", x.thing(5, 512, 0, 8), BAD_VALUE);
    Due.is("thing: the last one", x.thing(5, 32, 1, 1), TOO_MANY);
    Due.is("fixer: both", x.fixer(64, 10), BAD_VALUE);
    Due.is("fixer: the last one", x.fixer(63, 9), TOO_MANY);
    Due.is("drawer: both", x.drawer(8, 100), NO_SUCH);
    Due.is("drawer: the last one", x.drawer(7, 100), BAD_VALUE);
    Due.is("pass: both", x.pass(100), BAD_VALUE);
    Due.is("pass: the last one", x.pass(99), NOT_POSSIBLE);
    Due.is("ofThing: both", x.ofThing(30, 9), NO_SUCH);
    Due.is("ofThing: the last one", x.ofThing(29, 9), BAD_VALUE);
    Due.is("ofFixer: both", x.ofFixer(5, 7), NO_SUCH);
    Due.is("ofFixer: the last one", x.ofFixer(4, 7), BAD_VALUE);
    Due.is("ofPart: both", x.ofPart(8, 4), NO_SUCH);
    Due.is("ofPart: the last one", x.ofPart(7, 4), BAD_VALUE);
    Due.is("withFixer: both", x.withFixer(64, 10, 301), BAD_VALUE);
    Due.is("withFixer: the last one", x.withFixer(63, 9, 300), TOO_MANY);
    Due.is("bestCare: both", x.bestCare(301), BAD_VALUE);
    Due.is("bestCare: the last one", x.bestCare(300), TOO_MANY);
    Due.is("put: both", x.put(0), BAD_VALUE);
    Due.is("put: the last one", x.put('x'), TOO_MANY);
  }

  /** With thirty things, five fixers, and a full pad with a fault; of 99 minutes, 101 times are all that there can be. */
  private static DonorParts crowded(int times) {
    DonorParts x = new DonorParts();
    for (int i = 0; i < times; i++) {
      x.pass(99);
    }
    for (int i = 0; i < 5; i++) {
      x.fixer(1, 1);
    }
    for (int i = 0; i < 30; i++) {
      x.thing(5, 32, 9, 0);
    }
    for (int i = 0; i < 10; i++) {
      x.put(Due.packed("xxxxxxxx"));
    }
    return x;
  }

  /** "A call that returns an error changes nothing." */
  private static void errorsChangeNothing() {
    DonorParts x = crowded(0);
    int[] errors = {x.thing(0, 0, 9, 0), x.thing(6, 0, 9, 0), x.fixer(1, 1), x.fixer(0, 1), x.drawer(8, 5),
        x.drawer(0, 100), x.giveUp(30), x.pass(0), x.put('x'), x.put(0), x.carryOut(), x.save(2), x.restore(0),
        x.restore(2), x.doneIn(30), x.withFixer(1, 1, 1), x.bestCare(1), x.ofThing(30, 0), x.count(10)};
    for (int error : errors) {
      Due.holds("an error", error >= NOT_POSSIBLE && error <= NO_SUCH);
    }
    Due.holds("all is as without them", Arrays.equals(Look.at(x), Look.at(crowded(0))));
    DonorParts late = new DonorParts();
    for (int i = 0; i < 101; i++) {
      late.pass(99);
    }
    late.thing(0, 0, 9, 0);
    late.fixer(1, 1);
    int[] before = Look.at(late);
    Due.is("no minute is left", late.pass(1), NOT_POSSIBLE);
    Due.holds("all is as it was", Arrays.equals(Look.at(late), before));
    DonorParts y = new DonorParts();
    int[] atFirst = Look.at(y);
    Due.is("no change", y.undo(), NOT_POSSIBLE);
    Due.is("no text", y.carryOut(), BAD_TEXT);
    Due.is("nothing saved", y.restore(1), NOT_POSSIBLE);
    Due.holds("all is as at first", Arrays.equals(Look.at(y), atFirst));
  }

  /** "NONE (-6) is not an error; it is returned only if no error applies." */
  private static void noneIfNoErrorApplies() {
    DonorParts x = new DonorParts();
    Due.is("the fixer of no thing", x.ofThing(0, 5), NO_SUCH);
    Due.is("the place of no thing", x.ofThing(0, 8), NO_SUCH);
    Due.is("the work of no fixer", x.ofFixer(0, 2), NO_SUCH);
    Due.is("what no fixer would take", x.ofFixer(0, 6), NO_SUCH);
    Due.is("no part is missing", x.scarcest(), NONE);
    x.fixer(1, 1);
    x.thing(1, 0, 1, 0);
    Due.is("none works on it", x.ofThing(0, 5), NONE);
    Due.is("works on none", x.ofFixer(0, 2), NONE);
    Due.is("would take none", x.ofFixer(0, 6), NONE);
    x.pass(1);
    Due.is("no place", x.ofThing(0, 8), NONE);
    Due.write(x, "t1");
    Due.is("no fault", x.fault(), NONE);
  }

  /** "Everything is numbered from 0." */
  private static void numberedFrom0() {
    DonorParts x = new DonorParts();
    Due.is("the first thing", x.thing(0, 1, 9, 1), 0);
    Due.is("the first fixer", x.fixer(1, 0), 0);
    Due.is("the kind 0", x.ofThing(0, 0), 0);
    Due.is("the part 0 is the bit 0", x.ofPart(0, 1), 1);
    Due.is("the first place", x.ofThing(0, 8), 0);
    Due.is("the first slot", x.save(0), 1);
    Due.write(x, "x");
    Due.is("the first character", x.fault(), 0);
    // in the minute 0 the part is exchanged, in the minute 1 the test 0 passes
    Due.is("the first two minutes", x.pass(2), 1);
    Due.is("the test 0 is the bit 0", x.ofThing(0, 3), 0);
  }

  /** "Sets are bit masks." */
  private static void setsAreBitMasks() {
    DonorParts x = new DonorParts();
    x.fixer(1 << 1 | 1 << 4, 0);
    x.thing(1, 1 << 1 | 1 << 3, 9, 1 << 0 | 1 << 2);
    x.thing(4, 1 << 6, 9, 1 << 1);
    Due.is("kinds 1 and 4", x.ofFixer(0, 0), 18);
    Due.is("parts 1 and 3", x.ofThing(0, 1), 10);
    Due.is("tests 0 and 2", x.ofThing(0, 3), 5);
    Due.is("part 6", x.ofThing(1, 1), 64);
    Due.is("test 1", x.ofThing(1, 3), 2);
    int[] broken = {0, 1, 0, 1, 0, 0, 1, 0};
    for (int part = 0; part < 8; part++) {
      Due.is("broken ones of " + part, x.ofPart(part, 1), broken[part]);
    }
    x.pass(1);
    Due.is("the kind 1 is one of them", x.ofThing(0, 5), 0);
    Due.is("the part 1 is taken out", x.ofThing(0, 1), 8);
  }

  /** "A thing comes with a kind, the set of its parts that are broken .., a patience .., and tests .. that it does not pass at first". */
  private static void aThingComesWith() {
    for (int i = 0; i < 30; i++) {
      DonorParts x = new DonorParts();
      int kind = i % 6;
      int broken = i % 8 << kind;
      int patience = 1 + 37 * i % 99;
      int tests = i * 5 % 8;
      x.thing(kind, broken, patience, tests);
      int[] due = {kind, broken, patience, tests, 0, NONE, 0, 0, 0};
      for (int what = 0; what < due.length; what++) {
        Due.is("thing " + i + ", what " + what, x.ofThing(0, what), due[what]);
      }
    }
  }

  /** "fixers .. with a set of kinds of things that they can repair, and a care". */
  private static void aFixerHas() {
    for (int kinds = 1; kinds <= 63; kinds++) {
      DonorParts x = new DonorParts();
      x.fixer(kinds, kinds % 10);
      int[] due = {kinds, kinds % 10, NONE, 0, 0, 0, NONE};
      for (int what = 0; what < due.length; what++) {
        Due.is("fixer of " + kinds + ", what " + what, x.ofFixer(0, what), due[what]);
      }
    }
  }

  /** "A fixer who is free takes ..": one who is not works on, whatever comes. */
  private static void whoIsFree() {
    DonorParts x = new DonorParts();
    x.fixer(1, 0);
    x.thing(0, 7, 9, 0);
    x.pass(1);
    x.thing(0, 0, 3, 0);
    x.pass(1);
    Due.is("still the first thing", x.ofFixer(0, 2), 0);
    Due.is("the second one waits", x.ofThing(1, 4), 0);
    Due.is("with less patience", x.ofThing(1, 2), 2);
    Due.is("the first one is repaired", x.pass(1), 1);
    Due.is("the second one waited", x.ofThing(1, 2), 1);
    Due.is("and is taken then", x.pass(1), 1);
    Due.is("and repaired", x.ofThing(1, 4), 2);
  }

  /** "The repair takes, one after the other: 1. Parts .. 2. Tests": a minute each, in this order. */
  private static void oneAfterTheOther() {
    DonorParts x = new DonorParts();
    x.pass(1);
    x.fixer(4, 2);
    x.thing(2, 20, 9, 5);
    // minutes 1 and 2: parts 2 and 4; minutes 3 and 4: the sums 7 and 8
    int[] broken = {20, 16, 0, 0, 0};
    int[] tests = {5, 5, 5, 4, 0};
    for (int minute = 0; minute < 5; minute++) {
      Due.is("broken behind " + minute + " minutes", x.ofThing(0, 1), broken[minute]);
      Due.is("tests behind " + minute + " minutes", x.ofThing(0, 3), tests[minute]);
      Due.is("how it is behind " + minute + " minutes", x.ofThing(0, 4), minute == 0 ? 0 : minute < 4 ? 1 : 2);
      if (minute < 4) {
        Due.is("repaired in the fourth", x.pass(1), minute == 3 ? 1 : 0);
      }
    }
  }

  /** "In a minute: first each free fixer .. takes a thing; then each one who has one works on it ..; then the patience ..". */
  private static void eachPartOfAMinute() {
    DonorParts x = new DonorParts();
    x.fixer(1, 0);
    x.fixer(1, 0);
    x.thing(0, 0, 1, 0);
    x.thing(0, 6, 1, 0);
    x.thing(0, 0, 1, 0);
    x.thing(0, 0, 2, 0);
    Due.is("one is repaired", x.pass(1), 1);
    int[] how = {2, 1, 4, 0};
    int[] patience = {1, 1, 0, 1};
    int[] place = {NONE, NONE, NONE, 0};
    for (int thing = 0; thing < 4; thing++) {
      Due.is("how " + thing + " is", x.ofThing(thing, 4), how[thing]);
      Due.is("patience of " + thing, x.ofThing(thing, 2), patience[thing]);
      Due.is("place of " + thing, x.ofThing(thing, 8), place[thing]);
    }
    Due.is("a minute of work", x.ofFixer(0, 5), 1);
    Due.is("a minute of work", x.ofFixer(1, 5), 1);
    Due.is("a minute", x.count(0), 1);
    Due.is("both are repaired", x.pass(1), 2);
    Due.is("the last one by fixer 0", x.ofFixer(0, 3), 2);
  }

  /** What the text does is what the calls do. */
  private static void sameAs(String text, int orders, Twins.Calls calls) {
    DonorParts x = begun();
    Due.write(x, text);
    Due.is("no fault in " + text, x.fault(), NONE);
    Due.is("the orders of " + text, x.carryOut(), orders);
    DonorParts y = begun();
    calls.on(y);
    Due.holds(text + " does what the calls do", Arrays.equals(Look.atCafe(x), Look.atCafe(y)));
  }

  private static DonorParts begun() {
    DonorParts x = new DonorParts();
    x.fixer(63, 4);
    x.thing(3, 40, 8, 6);
    x.pass(1);
    x.thing(1, 4, 20, 7);
    return x;
  }

  /** "+" digit [ ":" part { part } ] "!" number [ "?" digit ]; "thing() of a kind, its broken parts, patience, and tests (0, if they are left out)". */
  private static void ordersThatAreThings() {
    sameAs("+0!7", 1, x -> x.thing(0, 0, 7, 0));
    sameAs("+5!70", 1, x -> x.thing(5, 0, 70, 0));
    sameAs("+4:5!1", 1, x -> x.thing(4, 32, 1, 0));
    sameAs("+3:534!99", 1, x -> x.thing(3, 56, 99, 0));
    sameAs("+2!12?6", 1, x -> x.thing(2, 0, 12, 6));
    sameAs("+1:31!10?3", 1, x -> x.thing(1, 10, 10, 3));
    sameAs("+1:31!10?3;+2:3!4;+0!5?1", 3, x -> {
      x.thing(1, 10, 10, 3);
      x.thing(2, 8, 4, 0);
      x.thing(0, 0, 5, 1);
    });
  }

  /** "f" digit { digit } "^" digit; "fixer() with kinds (each 0 to 5) and care". */
  private static void ordersThatAreFixers() {
    sameAs("f0^0", 1, x -> x.fixer(1, 0));
    sameAs("f5^9", 1, x -> x.fixer(32, 9));
    sameAs("f13^7", 1, x -> x.fixer(10, 7));
    sameAs("f543210^2", 1, x -> x.fixer(63, 2));
    sameAs("f2^1;f14^8", 2, x -> {
      x.fixer(4, 1);
      x.fixer(18, 8);
    });
  }

  /** "d" digit "=" number; "drawer() of a part, so many". */
  private static void ordersThatAreDrawers() {
    sameAs("d0=0", 1, x -> x.drawer(0, 0));
    sameAs("d7=99", 1, x -> x.drawer(7, 99));
    sameAs("d4=10;d3=8", 2, x -> {
      x.drawer(4, 10);
      x.drawer(3, 8);
    });
  }

  /** "t" number; "pass() minutes". */
  private static void ordersThatAreMinutes() {
    sameAs("t1", 1, x -> x.pass(1));
    sameAs("t10", 1, x -> x.pass(10));
    sameAs("t99", 1, x -> x.pass(99));
    sameAs("t2;t3;f3^1;t4", 4, x -> {
      x.pass(2);
      x.pass(3);
      x.fixer(8, 1);
      x.pass(4);
    });
  }

  /** "The fault is the index of the first character that cannot stand at its place when the text is read from left to right". */
  private static void readFromLeftToRight() {
    String text = "+2:34!20?5;f01^5;d3=44;t9";
    for (int wrong = 0; wrong < text.length(); wrong++) {
      for (int second = wrong; second < text.length(); second++) {
        DonorParts x = new DonorParts();
        char[] signs = text.toCharArray();
        signs[wrong] = '~';
        signs[second] = '~';
        Due.write(x, new String(signs));
        Due.is("wrong at " + wrong + " and " + second, x.fault(), wrong);
        Due.is("not carried out", x.carryOut(), BAD_TEXT);
      }
    }
    DonorParts y = new DonorParts();
    Due.write(y, text);
    Due.is("the right one", y.fault(), NONE);
  }

  /** "The constants: NO_SUCH = -1, BAD_VALUE = -2, BAD_TEXT = -3, TOO_MANY = -4, NOT_POSSIBLE = -5, NONE = -6". */
  private static void constants() {
    int[] constants = {DonorParts.NO_SUCH, DonorParts.BAD_VALUE, DonorParts.BAD_TEXT, DonorParts.TOO_MANY,
        DonorParts.NOT_POSSIBLE, DonorParts.NONE};
    for (int i = 0; i < constants.length; i++) {
      Due.is("constant " + i, constants[i], -1 - i);
    }
  }

  /** "what if; nothing changes". */
  private static void nothingChangesByWhatIfs() {
    DonorParts x = begun();
    x.save(0);
    Due.write(x, "t1");
    int[] before = Look.at(x);
    x.doneIn(0);
    Due.holds("doneIn changes nothing", Arrays.equals(Look.at(x), before));
    x.withFixer(63, 9, 300);
    Due.holds("withFixer changes nothing", Arrays.equals(Look.at(x), before));
    x.bestCare(300);
    Due.holds("bestCare changes nothing", Arrays.equals(Look.at(x), before));
    DonorParts y = begun();
    Due.is("as many are repaired then", x.pass(9), y.pass(9));
    Due.holds("and all is as if it was not asked", Arrays.equals(Look.atCafe(x), Look.atCafe(y)));
  }
}
