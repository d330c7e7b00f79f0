/** The bounds that promise 18 names, a test for each sentence, which stands above it. */
public final class CarryOutBoundsTest {
  private static final int BAD_TEXT = -3, NOT_POSSIBLE = -5, NONE = -6;

  public static void main(String[] args) {
    oneAfterTheOther();
    upToTheFirstError();
    errorsOfThings();
    thirtyThings();
    errorsOfFixers();
    fixersAndDrawersAtTheirBounds();
    errorsOfMinutes();
    noneIsCarriedOut();
    mostOrders();
    padIsEmptied();
    badText();
    oneChange();
    Due.end();
  }

  private static int carried(DonorParts x, String text) {
    Due.write(x, text);
    Due.is("no fault in " + text, x.fault(), NONE);
    int answer = x.carryOut();
    Due.is("the pad is empty behind " + text, x.count(8), 0);
    return answer;
  }

  /** "Carries the orders of the pad out, one after the other". */
  private static void oneAfterTheOther() {
    DonorParts x = new DonorParts();
    Due.is("four", carried(x, "+0:0!9;t3;f0^0;t1"), 4);
    Due.is("it came before three minutes passed", x.ofThing(0, 2), 6);
    Due.is("the fixer came behind them", x.ofFixer(0, 5), 1);
    Due.is("and repaired it", x.ofThing(0, 4), 2);
    Due.is("the last one counts", carried(x, "d0=5;d0=6;d0=7"), 3);
    Due.is("7", x.ofPart(0, 0), 7);
  }

  /** "up to the first one that returns an error": what comes before it stands, what comes behind it does not. */
  private static void upToTheFirstError() {
    String[] orders = {"d0=5", "d1=6", "d2=7", "d3=8"};
    for (int wrong = 0; wrong < 4; wrong++) {
      StringBuilder text = new StringBuilder();
      for (int i = 0; i < 4; i++) {
        text.append(i == 0 ? "" : ";").append(i == wrong ? "t0" : orders[i]);
      }
      DonorParts x = new DonorParts();
      Due.is("those before the wrong one", carried(x, text.toString()), wrong);
      for (int i = 0; i < 4; i++) {
        Due.is("drawer " + i, x.ofPart(i, 0), i < wrong ? 5 + i : 1);
      }
    }
  }

  /** The errors of thing() that a text can tell: a part that it has not, and a patience of 0. */
  private static void errorsOfThings() {
    for (int kind = 0; kind <= 5; kind++) {
      for (int part = 0; part <= 7; part++) {
        DonorParts x = new DonorParts();
        boolean own = part >= kind && part <= kind + 2;
        Due.is("part " + part + " of the kind " + kind, carried(x, "+" + kind + ":" + part + "!5;t1"), own ? 2 : 0);
      }
    }
    DonorParts y = new DonorParts();
    Due.is("a patience of 0", carried(y, "+0!0"), 0);
    Due.is("a patience of 1", carried(y, "+0!1"), 1);
    Due.is("a patience of 99", carried(y, "+0!99"), 1);
    Due.is("two", y.count(1), 2);
  }

  /** TOO_MANY of thing(), in a text. */
  private static void thirtyThings() {
    DonorParts x = new DonorParts();
    for (int i = 0; i < 28; i++) {
      x.thing(0, 0, 9, 0);
    }
    Due.is("two more, and no third", carried(x, "+1!1;+2!2;+3!3;t1"), 2);
    Due.is("thirty", x.count(1), 30);
    Due.is("no minute", x.count(0), 0);
    Due.is("the last one", x.ofThing(29, 0), 2);
  }

  /** TOO_MANY of fixer(), in a text. */
  private static void errorsOfFixers() {
    DonorParts x = new DonorParts();
    Due.is("five, and no sixth", carried(x, "f0^0;f1^1;f2^2;f3^3;f4^4;f5^5;t1"), 5);
    Due.is("five", x.count(2), 5);
    Due.is("no minute", x.count(0), 0);
    Due.is("the last one", x.ofFixer(4, 0), 16);
  }

  /** What a text can tell of fixers and drawers is in their ranges. */
  private static void fixersAndDrawersAtTheirBounds() {
    DonorParts x = new DonorParts();
    Due.is("all", carried(x, "f0^0;f012345^9;d0=0;d7=99;d1=99;d6=0"), 6);
    Due.is("one kind", x.ofFixer(0, 0), 1);
    Due.is("all kinds", x.ofFixer(1, 0), 63);
    Due.is("no care", x.ofFixer(0, 1), 0);
    Due.is("all care", x.ofFixer(1, 1), 9);
    Due.is("none", x.ofPart(0, 0), 0);
    Due.is("99", x.ofPart(7, 0), 99);
  }

  /** The errors of pass() in a text: 0 minutes, and more than 9999. */
  private static void errorsOfMinutes() {
    DonorParts x = new DonorParts();
    Due.is("0 minutes", carried(x, "t0;t1"), 0);
    Due.is("1 and 99 minutes", carried(x, "t1;t99"), 2);
    Due.is("a hundred", x.count(0), 100);
    for (int i = 0; i < 99; i++) {
      x.pass(99);
    }
    Due.is("9901", x.count(0), 9901);
    Due.is("99 are too many", carried(x, "t99;t1"), 0);
    Due.is("98 are not", carried(x, "t97;t1;t1;d0=5"), 2);
    Due.is("9999", x.count(0), 9999);
    Due.is("what comes behind it is not carried out", x.ofPart(0, 0), 1);
    Due.is("orders without minutes are", carried(x, "d0=5;+0!5;f0^0"), 3);
  }

  /** "This is a change (one, with all of them; also if none is carried out)." */
  private static void noneIsCarriedOut() {
    DonorParts x = new DonorParts();
    x.drawer(0, 7);
    Due.is("none", carried(x, "t0;d0=8"), 0);
    Due.is("a change nevertheless", x.count(9), 2);
    Due.is("to undo", x.undo(), 1);
    Due.is("nothing was different", x.ofPart(0, 0), 7);
    Due.is("the one before it", x.undo(), 0);
    Due.is("was another", x.ofPart(0, 0), 1);
  }

  /** "Returns how many orders were carried out": from none to 27, which fill the pad. */
  private static void mostOrders() {
    DonorParts x = new DonorParts();
    StringBuilder text = new StringBuilder("t1");
    for (int many = 1; many <= 27; many++) {
      Due.is("orders", carried(x, text.toString()), many);
      Due.is("minutes", x.count(0), many * (many + 1) / 2);
      text.append(";t1");
    }
    text.setLength(80);
    Due.is("27 again", carried(x, text.toString()), 27);
  }

  /** "and empties the pad": also behind an error. */
  private static void padIsEmptied() {
    DonorParts x = new DonorParts();
    carried(x, "t1");
    carried(x, "t0;t1");
    carried(x, "t1;t0;t1");
    Due.is("empty", x.wipe(), 0);
    Due.is("the next text begins anew", carried(x, "d0=9"), 1);
    Due.is("9", x.ofPart(0, 0), 9);
  }

  /** "BAD_TEXT if the pad has a fault (then it stays)": then no order is carried out. */
  private static void badText() {
    String[] texts = {"t", "t1;", "t1;x", "d0=5;d0=100", "d0=5;;", "x", ";", "+0!1;f0"};
    for (String text : texts) {
      DonorParts x = new DonorParts();
      Due.write(x, text);
      Due.is("a fault in " + text, x.carryOut(), BAD_TEXT);
      Due.is("it stays", x.count(8), text.length());
      Due.is("no change", x.count(9), 0);
      Due.is("no minute", x.count(0), 0);
      Due.is("no thing", x.count(1), 0);
      Due.is("the drawer", x.ofPart(0, 0), 1);
      Due.is("nothing to undo", x.undo(), NOT_POSSIBLE);
    }
    DonorParts y = new DonorParts();
    Due.is("an empty one", y.carryOut(), BAD_TEXT);
    Due.write(y, "d0=5;d1");
    Due.is("too early", y.carryOut(), BAD_TEXT);
    Due.write(y, "=6");
    Due.is("what stayed is carried out with what is put behind it", y.carryOut(), 2);
    Due.is("5", y.ofPart(0, 0), 5);
    Due.is("6", y.ofPart(1, 0), 6);
  }

  /** "This is a change (one, with all of them ..)". */
  private static void oneChange() {
    DonorParts x = new DonorParts();
    for (int i = 0; i < 6; i++) {
      x.drawer(7, 10 + i);
    }
    Due.is("eight", carried(x, "+0!5;f0^0;d0=5;d0=6;d0=7;d0=8;d0=9;t1"), 8);
    Due.is("still six", x.count(9), 6);
    Due.is("one of them", x.undo(), 5);
    Due.is("no thing", x.count(1), 0);
    Due.is("no fixer", x.count(2), 0);
    Due.is("no minute", x.count(0), 0);
    Due.is("no order", x.ofPart(0, 0), 1);
    Due.is("15", x.ofPart(7, 0), 15);
    Due.is("the one before it is another", x.undo(), 4);
    Due.is("14", x.ofPart(7, 0), 14);
  }
}
