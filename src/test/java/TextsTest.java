/** Promises 15 to 18: texts. */
public final class TextsTest {
  private static final int BAD_VALUE = -2, BAD_TEXT = -3, TOO_MANY = -4, NOT_POSSIBLE = -5, NONE = -6;

  public static void main(String[] args) {
    put();
    putIsRefused();
    fullPad();
    wipe();
    faults();
    everySignAtEveryPlace();
    carryOut();
    carryOutStopsAtAnError();
    carryOutNeedsAText();
    carryOutIsOneChange();
    errorsOfOrders();
    Due.end();
  }

  private static void put() {
    DonorParts x = new DonorParts();
    Due.is("15: one", x.put('t'), 1);
    Due.is("15: order of the characters", x.put(Due.packed("12")), 3);
    Due.is("15: t12", x.fault(), NONE);
    Due.is("15: eight", x.put(Due.packed(";d0=99;f")), 11);
    Due.is("15: too early", x.fault(), 11);
    Due.is("15: length", x.count(8), 11);
    Due.is("15: no change", x.count(9), 0);
    Due.is("15: the first and the last code", x.put(33L << 8 | 126), 13);
  }

  private static void putIsRefused() {
    DonorParts x = new DonorParts();
    Due.is("15: none", x.put(0), BAD_VALUE);
    Due.is("15: 32", x.put(32), BAD_VALUE);
    Due.is("15: 127", x.put(127), BAD_VALUE);
    Due.is("15: 255", x.put(255), BAD_VALUE);
    Due.is("15: -1", x.put(-1), BAD_VALUE);
    Due.is("15: a space in it", x.put(Due.packed("t 1")), BAD_VALUE);
    Due.is("15: a space at first", x.put(Due.packed(" t1")), BAD_VALUE);
    Due.is("15: the highest bits", x.put((long) 't' << 56), BAD_VALUE);
    Due.is("15: a gap", x.put((long) 't' << 16 | '1'), BAD_VALUE);
    Due.is("15: a bit far above", x.put(1L << 63 | 't'), BAD_VALUE);
    Due.is("15: a high first character", x.put(Long.MIN_VALUE | Due.packed("1111111")), BAD_VALUE);
    Due.is("15: a code above 127 at first", x.put(200L << 56 | Due.packed("1111111")), BAD_VALUE);
    Due.is("15: still empty", x.count(8), 0);
  }

  private static void fullPad() {
    DonorParts x = new DonorParts();
    for (int i = 1; i <= 9; i++) {
      Due.is("15: by eights", x.put(Due.packed("t1;t1;t1")), 8 * i);
    }
    Due.is("15: 79", x.put(Due.packed("1234567")), 79);
    Due.is("15: one too many", x.put(Due.packed("12")), TOO_MANY);
    Due.is("15: value before too many", x.put(32), BAD_VALUE);
    Due.is("15: nothing was put", x.count(8), 79);
    Due.is("15: 80", x.put('1'), 80);
    Due.is("15: 81", x.put('1'), TOO_MANY);
    Due.is("15: too many at once", x.put(Due.packed("12345678")), TOO_MANY);
    Due.is("16: 80", x.wipe(), 80);
    // 27 orders of two characters fill the pad
    for (int i = 0; i < 26; i++) {
      x.put(Due.packed("t1;"));
    }
    Due.is("15: 80 again", x.put(Due.packed("t1")), 80);
    Due.is("17: a full pad", x.fault(), NONE);
    Due.is("18: all of it", x.carryOut(), 27);
    Due.is("18: 27 minutes", x.count(0), 27);
    for (int i = 0; i < 24; i++) {
      x.put(Due.packed("t1;"));
    }
    Due.is("15: 80 once more", x.put(Due.packed("t10;t10;")), 80);
    Due.is("17: it ends too early behind its last sign", x.fault(), 80);
    x.wipe();
    x.put('f');
    for (int i = 0; i < 77; i++) {
      x.put('0' + i % 6);
    }
    x.put(Due.packed("^4"));
    Due.is("17: many kinds", x.fault(), NONE);
    Due.is("18: many kinds", x.carryOut(), 1);
    Due.is("18: many kinds, told often", x.ofFixer(0, 0), 63);
  }

  private static void wipe() {
    DonorParts x = new DonorParts();
    Due.is("16: an empty one", x.wipe(), 0);
    Due.write(x, "t1;nonsense");
    Due.is("16: eleven", x.wipe(), 11);
    Due.is("16: empty then", x.count(8), 0);
    Due.is("16: empty then", x.wipe(), 0);
    Due.is("16: no change", x.count(9), 0);
    Due.write(x, "t1");
    Due.is("16: nothing of the old text", x.fault(), NONE);
  }

  private static void faults() {
    fault("", 0);
    fault("t", 1);
    fault("t1", NONE);
    fault("t0", NONE);
    fault("t10", NONE);
    fault("t99", NONE);
    fault("t05", 2);
    fault("t00", 2);
    fault("t100", 3);
    fault("t99;", 4);
    fault("t9;;", 3);
    fault(";t9", 0);
    fault("x", 0);
    fault("T1", 0);
    fault("t-1", 1);
    fault("t1t1", 2);
    fault("t1,t1", 2);
    fault("d7=0", NONE);
    fault("d8=0", 1);
    fault("d0", 2);
    fault("d0=", 3);
    fault("d01", 2);
    fault("d0=01", 4);
    fault("d0=99", NONE);
    fault("d0=990", 5);
    fault("d0=5=", 4);
    fault("f0^0", NONE);
    fault("f5^9", NONE);
    fault("f6^9", 1);
    fault("f^9", 1);
    fault("f06^9", 2);
    fault("f012345^9", NONE);
    fault("f00^9", NONE);
    fault("f0^10", 4);
    fault("f0^", 3);
    fault("f0", 2);
    fault("f", 1);
    fault("f0;", 2);
    fault("+0!1", NONE);
    fault("+5!99", NONE);
    fault("+6!1", 1);
    fault("+", 1);
    fault("+0", 2);
    fault("+0!", 3);
    fault("+0!0", NONE);
    fault("+0!01", 4);
    fault("+0!100", 5);
    fault("+01!1", 2);
    fault("+0:!1", 3);
    fault("+0:7!1", NONE);
    fault("+0:8!1", 3);
    fault("+0:08!1", 4);
    fault("+0:01234567!1", NONE);
    fault("+0:00!1", NONE);
    fault("+0:0", 4);
    fault("+0:", 3);
    fault("+0:0:1!1", 4);
    fault("+0?1", 2);
    fault("+0!1?0", NONE);
    fault("+0!1?7", NONE);
    fault("+0!1?8", 5);
    fault("+0!1?", 5);
    fault("+0!1?77", 6);
    fault("+0!1?7?7", 6);
    fault("+0!1?7;t5", NONE);
    fault("+0!?7", 3);
    fault("f01^5;d3=44;+2:34!20?5;t9", NONE);
    fault("f01^5;d3=44;+2:34!20?5;t9;", 26);
    fault("f01^5;d3=44;+2:34!20?5;t9;+9", 27);
  }

  private static void fault(String text, int due) {
    DonorParts x = new DonorParts();
    Due.write(x, text);
    Due.is("17: fault of " + text, x.fault(), due);
    Due.is("17: the pad stays", x.count(8), text.length());
    int orders = text.split(";", -1).length;
    int carried = x.carryOut();
    if (due != NONE) {
      Due.is("18: " + text, carried, BAD_TEXT);
      Due.is("18: the pad stays", x.count(8), text.length());
      Due.is("18: nothing is recorded", x.count(9), 0);
    } else {
      Due.holds("18: " + text, carried >= 0 && carried <= orders);
      Due.is("18: the pad is empty", x.count(8), 0);
      Due.is("18: recorded", x.count(9), 1);
    }
  }

  /** Which signs can stand behind a text that is not faulty. */
  private static void everySignAtEveryPlace() {
    signsBehind("", "+fdt");
    signsBehind("t", "0123456789");
    signsBehind("t0", ";");
    signsBehind("t4", ";0123456789");
    signsBehind("t42", ";");
    signsBehind("t42;", "+fdt");
    signsBehind("d", "01234567");
    signsBehind("d3", "=");
    signsBehind("d3=", "0123456789");
    signsBehind("d3=0", ";");
    signsBehind("d3=9", ";0123456789");
    signsBehind("f", "012345");
    signsBehind("f2", "^012345");
    signsBehind("f2^", "0123456789");
    signsBehind("f2^5", ";");
    signsBehind("+", "012345");
    signsBehind("+1", ":!");
    signsBehind("+1:", "01234567");
    signsBehind("+1:2", "!01234567");
    signsBehind("+1:2!", "0123456789");
    signsBehind("+1!", "0123456789");
    signsBehind("+1!0", "?;");
    signsBehind("+1!7", "?;0123456789");
    signsBehind("+1!77", "?;");
    signsBehind("+1!77?", "01234567");
    signsBehind("+1!77?0", ";");
  }

  private static void signsBehind(String text, String signs) {
    DonorParts x = new DonorParts();
    for (char sign = 33; sign <= 126; sign++) {
      x.wipe();
      Due.write(x, text + sign);
      int fault = x.fault();
      boolean stands = fault != text.length();
      Due.holds("17: " + sign + " behind " + text, stands == signs.indexOf(sign) >= 0);
    }
  }

  private static void carryOut() {
    DonorParts x = new DonorParts();
    Due.write(x, "f05^7;d3=44;d3=0;+2:34!20?5;+1!9;+0:202!99;f1^0;t1");
    Due.is("18: no fault", x.fault(), NONE);
    Due.is("18: eight orders", x.carryOut(), 8);
    Due.is("18: the pad is empty", x.count(8), 0);
    Due.is("18: kinds", x.ofFixer(0, 0), 33);
    Due.is("18: care", x.ofFixer(0, 1), 7);
    Due.is("18: kinds", x.ofFixer(1, 0), 2);
    Due.is("18: care", x.ofFixer(1, 1), 0);
    Due.is("18: drawer", x.ofPart(3, 0), 0);
    Due.is("18: kind", x.ofThing(0, 0), 2);
    Due.is("18: parts", x.ofThing(0, 1), 24);
    Due.is("18: patience", x.ofThing(0, 2), 19);
    Due.is("18: tests", x.ofThing(0, 3), 5);
    Due.is("18: no tests", x.ofThing(1, 3), 0);
    Due.is("18: repaired", x.ofThing(1, 4), 2);
    Due.is("18: told twice", x.ofThing(2, 1), 4);
    Due.is("18: one exchanged", x.ofThing(2, 7), 1);
    Due.is("18: a minute", x.count(0), 1);
    Due.is("18: one change", x.count(9), 1);
    Due.write(x, "t12");
    Due.is("18: a number of two digits", x.carryOut(), 1);
    Due.is("18: thirteen minutes", x.count(0), 13);
  }

  private static void carryOutStopsAtAnError() {
    DonorParts x = new DonorParts();
    Due.write(x, "d0=5;t0;d0=6");
    Due.is("18: up to the error", x.carryOut(), 1);
    Due.is("18: what came before stands", x.ofPart(0, 0), 5);
    Due.is("18: the pad is empty", x.count(8), 0);
    Due.is("18: one change", x.count(9), 1);
    Due.write(x, "t0;t5");
    Due.is("18: none", x.carryOut(), 0);
    Due.is("18: a change too", x.count(9), 2);
    Due.is("18: no minute", x.count(0), 0);
    Due.is("18: the pad is empty", x.count(8), 0);
    Due.is("19: undo of none", x.undo(), 1);
    Due.is("19: the drawer stays", x.ofPart(0, 0), 5);
    Due.is("19: undo of one", x.undo(), 0);
    Due.is("19: the drawer at first", x.ofPart(0, 0), 1);
  }

  private static void carryOutNeedsAText() {
    DonorParts x = new DonorParts();
    Due.is("18: an empty pad", x.carryOut(), BAD_TEXT);
    Due.write(x, "d0=5;d0=6;d0");
    Due.is("18: a fault at its end", x.carryOut(), BAD_TEXT);
    Due.is("18: nothing is carried out", x.ofPart(0, 0), 1);
    Due.is("18: nothing is recorded", x.count(9), 0);
    Due.is("18: it stays", x.count(8), 12);
    Due.write(x, "=7");
    Due.is("18: mended", x.carryOut(), 3);
    Due.is("18: carried out", x.ofPart(0, 0), 7);
  }

  private static void carryOutIsOneChange() {
    DonorParts x = new DonorParts();
    x.drawer(1, 7);
    Due.write(x, "d0=5;d0=6;d0=7;d0=8;d0=9;d0=10;d0=11;t5");
    Due.is("18: eight", x.carryOut(), 8);
    Due.is("19: one of them", x.count(9), 2);
    Due.is("19: undone at once", x.undo(), 1);
    Due.is("19: the drawer", x.ofPart(0, 0), 1);
    Due.is("19: the minutes", x.count(0), 0);
    Due.is("19: not the change before", x.ofPart(1, 0), 7);
    Due.is("19: the pad stays empty", x.count(8), 0);
  }

  private static void errorsOfOrders() {
    DonorParts x = new DonorParts();
    Due.write(x, "+0:3!9;t1");
    Due.is("18: a part that it has not", x.carryOut(), 0);
    Due.write(x, "+0!0;t1");
    Due.is("18: no patience", x.carryOut(), 0);
    Due.write(x, "f0^0;f1^1;f2^2;f3^3;f4^4;f5^5;t1");
    Due.is("18: five fixers", x.carryOut(), 5);
    Due.is("18: no minute", x.count(0), 0);
    Due.write(x, "d7=99;+5:765!1?7;t99");
    Due.is("18: all of them", x.carryOut(), 3);
    Due.is("18: 99 minutes", x.count(0), 99);
    for (int i = 0; i < 99; i++) {
      x.pass(99);
    }
    x.pass(98);
    Due.write(x, "t1;t1");
    Due.is("18: minutes up to 9999", x.carryOut(), 1);
    Due.is("18: 9999", x.count(0), 9999);
    Due.is("18: as pass() says", x.pass(1), NOT_POSSIBLE);
  }
}
