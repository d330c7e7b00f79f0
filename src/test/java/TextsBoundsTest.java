import java.util.Set;

/** The bounds that the document names for texts and in promises 15 to 18, a test for each sentence, which stands above it. */
public final class TextsBoundsTest {
  private static final int BAD_VALUE = -2, BAD_TEXT = -3, TOO_MANY = -4, NONE = -6;

  public static void main(String[] args) {
    oneToEightCharacters();
    orderOfTheCharacters();
    codes33To126();
    nothingAboveTheEnd();
    noCharacter();
    eightyCharacters();
    eightyInOtherPieces();
    badBeforeTooMany();
    lengthBeforeWipe();
    emptyText();
    firstCharacter();
    oneOrderOrMore();
    kindsInTexts();
    partsInTexts();
    partsToldTwice();
    testsInTexts();
    testsLeftOut();
    careInTexts();
    numbersInTexts();
    leadingZeros();
    above99();
    tooEarly();
    lastCharacterOfAFullPad();
    faultLeavesThePad();
    Due.end();
  }

  private static DonorParts with(String text) {
    DonorParts x = new DonorParts();
    Due.write(x, text);
    Due.is("the length of " + text, x.count(8), text.length());
    return x;
  }

  private static void fault(String text, int due) {
    Due.is("the fault of " + text, with(text).fault(), due);
  }

  /** 15: "characters: 1 to 8 characters", "Returns the length of the pad then". */
  private static void oneToEightCharacters() {
    for (int many = 1; many <= 8; many++) {
      DonorParts x = new DonorParts();
      Due.is(many + " at once", x.put(Due.packed("d0=12;t3".substring(0, many))), many);
      Due.is("and as many once more", x.put(Due.packed("d0=12;t3".substring(0, many))), 2 * many);
    }
  }

  /** 15: "its lowest 8 bits are the last character, the next 8 bits the one before, and so on". */
  private static void orderOfTheCharacters() {
    String text = "d7=98;t3";
    for (int first = 0; first <= 8; first++) {
      DonorParts x = new DonorParts();
      x.put(Due.packed(text.substring(0, first)));
      x.put(Due.packed(text.substring(first)));
      Due.is("no fault in two pieces", x.fault(), NONE);
      Due.is("both orders", x.carryOut(), 2);
      Due.is("98 of the part 7", x.ofPart(7, 0), 98);
      Due.is("3 minutes", x.count(0), 3);
    }
    DonorParts y = new DonorParts();
    y.put('t' << 8 | '9');
    Due.is("t is the first one", y.fault(), NONE);
    DonorParts z = new DonorParts();
    z.put('9' << 8 | 't');
    Due.is("9 is the first one", z.fault(), 0);
  }

  /** 15: "BAD_VALUE if .. a code is not 33 to 126": at each place. */
  private static void codes33To126() {
    for (int code = 0; code < 256; code++) {
      for (int place = 0; place < 8; place++) {
        for (int many = place + 1; many <= 8; many++) {
          long characters = 0;
          for (int i = 0; i < many; i++) {
            characters |= (long) (i == place ? code : 33 + 93 * (i & 1)) << 8 * i;
          }
          DonorParts x = new DonorParts();
          boolean ends = code == 0 && place == many - 1 && place > 0;
          int due = code >= 33 && code <= 126 ? many : ends ? place : BAD_VALUE;
          Due.is("code " + code + " at " + place + " of " + many, x.put(characters), due);
          Due.is("the pad then", x.count(8), Math.max(due, 0));
        }
      }
    }
  }

  /** 15: "BAD_VALUE if .. a bit above 8 bits that are 0 is not 0". */
  private static void nothingAboveTheEnd() {
    for (int many = 0; many < 7; many++) {
      long characters = Due.packed("1234567".substring(0, many));
      for (int bit = 8 * many + 8; bit < 64; bit++) {
        DonorParts x = new DonorParts();
        Due.is(many + " characters, and the bit " + bit, x.put(characters | 1L << bit), BAD_VALUE);
        Due.is("the pad is empty", x.count(8), 0);
        Due.is("with a right character there", x.put(characters | (long) 'a' << bit / 8 * 8), BAD_VALUE);
      }
    }
  }

  /** 15: "BAD_VALUE if there is no character". */
  private static void noCharacter() {
    DonorParts x = new DonorParts();
    Due.is("none", x.put(0), BAD_VALUE);
    x.put('t');
    Due.is("none behind one", x.put(0), BAD_VALUE);
    Due.is("it stays", x.count(8), 1);
  }

  /** 15: "TOO_MANY if the pad would be longer than 80." */
  private static void eightyCharacters() {
    DonorParts x = new DonorParts();
    for (int i = 1; i <= 9; i++) {
      Due.is("eight more", x.put(Due.packed("d0=12;t3")), 8 * i);
    }
    Due.is("72 and 8", x.put(Due.packed("d0=12;t3")), 80);
    for (int many = 1; many <= 8; many++) {
      Due.is("80 and " + many, x.put(Due.packed("d0=12;t3".substring(0, many))), TOO_MANY);
    }
    Due.is("80 stay", x.count(8), 80);
    Due.is("and are told", x.wipe(), 80);
    Due.is("then there is room", x.put(Due.packed("d0=12;t3")), 8);
  }

  /** The same: what would go beyond 80 is not put, not even up to there. */
  private static void eightyInOtherPieces() {
    for (int length = 73; length <= 80; length++) {
      for (int many = 1; many <= 8; many++) {
        DonorParts x = new DonorParts();
        for (int i = 0; i < length; i++) {
          x.put('a');
        }
        boolean room = length + many <= 80;
        Due.is(length + " and " + many, x.put(Due.packed("bbbbbbbb".substring(0, many))), room ? length + many : TOO_MANY);
        Due.is("the length then", x.count(8), room ? length + many : length);
      }
    }
  }

  /** 15: BAD_VALUE comes before TOO_MANY. */
  private static void badBeforeTooMany() {
    DonorParts x = new DonorParts();
    for (int i = 0; i < 80; i++) {
      x.put('a');
    }
    Due.is("no character", x.put(0), BAD_VALUE);
    Due.is("code 32", x.put(32), BAD_VALUE);
    Due.is("code 127", x.put(127), BAD_VALUE);
    Due.is("above the end", x.put('a' << 16 | 'a'), BAD_VALUE);
    Due.is("code 33", x.put(33), TOO_MANY);
    Due.is("code 126", x.put(126), TOO_MANY);
  }

  /** 16: "Empties the pad, and returns the length that it had." */
  private static void lengthBeforeWipe() {
    DonorParts x = new DonorParts();
    Due.is("0", x.wipe(), 0);
    x.put('x');
    Due.is("1", x.wipe(), 1);
    Due.is("0 again", x.wipe(), 0);
    for (int i = 0; i < 79; i++) {
      x.put('x');
    }
    Due.is("79", x.wipe(), 79);
    Due.write(x, "t7");
    Due.is("what is put then is all", x.fault(), NONE);
    Due.is("and is carried out", x.carryOut(), 1);
    Due.is("seven", x.count(0), 7);
    Due.is("carryOut() empties it, too", x.wipe(), 0);
  }

  /** 17: "(also if it is empty)", 18: "BAD_TEXT if the pad has a fault". */
  private static void emptyText() {
    DonorParts x = new DonorParts();
    Due.is("an empty one ends too early", x.fault(), 0);
    Due.is("and is not carried out", x.carryOut(), BAD_TEXT);
    Due.is("nothing is recorded", x.count(9), 0);
    Due.write(x, "t1");
    x.wipe();
    Due.is("empty again", x.fault(), 0);
    Due.write(x, "t1");
    x.carryOut();
    Due.is("empty once more", x.carryOut(), BAD_TEXT);
  }

  /** 17: the fault can be the first character, in each order. */
  private static void firstCharacter() {
    for (char sign = 33; sign <= 126; sign++) {
      boolean order = sign == '+' || sign == 'f' || sign == 'd' || sign == 't';
      fault("" + sign, order ? 1 : 0);
      fault("t1;" + sign, order ? 4 : 3);
    }
  }

  /** "text = order { ";" order }": one order or more, with one sign between them. */
  private static void oneOrderOrMore() {
    fault("t1", NONE);
    fault("t1;", 3);
    fault("t1;t1", NONE);
    fault("t1;;t1", 3);
    fault(";t1", 0);
    fault("t1t1", 2);
    fault("+0!1f0^0", 4);
    fault("+0!1?0d0=0", 6);
    fault("d0=0t0", 4);
    fault("f0^0+0!1", 4);
    fault("+0!1;f0^0;d0=0;t0", NONE);
  }

  /** "a digit 0 to 5 for kinds of things". */
  private static void kindsInTexts() {
    for (char sign = 33; sign <= 126; sign++) {
      boolean kind = sign >= '0' && sign <= '5';
      fault("+" + sign + "!1", kind ? NONE : 1);
      fault("f" + sign + "^1", kind ? NONE : 1);
      fault("f0" + sign + "^1", kind ? NONE : sign == '^' ? 3 : 2);
    }
    for (int kind = 0; kind <= 5; kind++) {
      DonorParts x = with("f" + kind + "^9;+" + kind + "!5");
      Due.is("both", x.carryOut(), 2);
      Due.is("the fixer's", x.ofFixer(0, 0), 1 << kind);
      Due.is("the thing's", x.ofThing(0, 0), kind);
    }
  }

  /** "A part is a digit from 0 to 7", and in a thing there is at least one behind ":". */
  private static void partsInTexts() {
    for (char sign = 33; sign <= 126; sign++) {
      boolean part = sign >= '0' && sign <= '7';
      fault("d" + sign + "=1", part ? NONE : 1);
      fault("+0:" + sign + "!1", part ? NONE : 3);
      fault("+0:7" + sign + "!1", part ? NONE : sign == '!' ? 5 : 4);
    }
    fault("+0:!1", 3);
    for (int part = 0; part <= 7; part++) {
      DonorParts x = with("d" + part + "=0;+5:" + part + "!5");
      Due.is("a thing of the kind 5 has 5, 6 and 7", x.carryOut(), part < 5 ? 1 : 2);
      Due.is("the drawer's", x.ofPart(part, 0), 0);
      Due.is("the thing's", x.ofPart(part, 1), part < 5 ? 0 : 1);
    }
  }

  /** "(it can be told twice)". */
  private static void partsToldTwice() {
    DonorParts x = with("+2:4424!9;+2:23423!9;f33^0");
    Due.is("all", x.carryOut(), 3);
    Due.is("2 and 4", x.ofThing(0, 1), 20);
    Due.is("2, 3 and 4", x.ofThing(1, 1), 28);
    Due.is("a kind that is told twice", x.ofFixer(0, 0), 8);
    DonorParts y = with("+0:00000000000000000000000000000000000000000000000000000000000000000000000000!9");
    Due.is("often", y.carryOut(), 1);
    Due.is("0 alone", y.ofThing(0, 1), 1);
  }

  /** "0 to 7 for tests". */
  private static void testsInTexts() {
    for (char sign = 33; sign <= 126; sign++) {
      fault("+0!1?" + sign, sign >= '0' && sign <= '7' ? NONE : 5);
      fault("+0!1?0" + sign, sign == ';' ? 7 : 6);
    }
    for (int tests = 0; tests <= 7; tests++) {
      DonorParts x = with("+0!1?" + tests);
      Due.is("one", x.carryOut(), 1);
      Due.is("the tests", x.ofThing(0, 3), tests);
    }
  }

  /** "tests (0, if they are left out)": also behind a thing that has some. */
  private static void testsLeftOut() {
    DonorParts x = with("+1:1!8?7;+0!9;+0:0!9");
    Due.is("all", x.carryOut(), 3);
    Due.is("told", x.ofThing(0, 3), 7);
    Due.is("left out", x.ofThing(1, 3), 0);
    Due.is("parts left out", x.ofThing(1, 1), 0);
    Due.is("left out with parts", x.ofThing(2, 3), 0);
  }

  /** "0 to 9 for care". */
  private static void careInTexts() {
    for (char sign = 33; sign <= 126; sign++) {
      fault("f0^" + sign, sign >= '0' && sign <= '9' ? NONE : 3);
      fault("f0^0" + sign, sign == ';' ? 5 : 4);
    }
    for (int care = 0; care <= 9; care++) {
      DonorParts x = with("f0^" + care);
      Due.is("one", x.carryOut(), 1);
      Due.is("the care", x.ofFixer(0, 1), care);
    }
  }

  /** "a number 0 to 99": in each order that has one. */
  private static void numbersInTexts() {
    String[] orders = {"t", "d3=", "+0!"};
    for (String order : orders) {
      for (int number = 0; number <= 120; number++) {
        fault(order + number, number <= 99 ? NONE : order.length() + 2);
      }
      for (char sign = 33; sign <= 126; sign++) {
        boolean digit = sign >= '0' && sign <= '9';
        boolean more = sign == ';' || sign == '?' && order.equals("+0!");
        fault(order + sign, digit ? NONE : order.length());
        fault(order + "4" + sign, digit ? NONE : order.length() + (more ? 2 : 1));
        fault(order + "42" + sign, order.length() + (more ? 3 : 2));
      }
    }
    for (int number = 0; number <= 99; number++) {
      DonorParts x = with("d3=" + number + ";+0!" + number);
      Due.is("a patience of 0 is refused", x.carryOut(), number == 0 ? 1 : 2);
      Due.is("the drawer", x.ofPart(3, 0), number);
      Due.is("the patience", x.count(1) == 0 ? 0 : x.ofThing(0, 2), number);
      DonorParts y = with("t" + number);
      Due.is("0 minutes are refused", y.carryOut(), number == 0 ? 0 : 1);
      Due.is("the minutes", y.count(0), number);
    }
  }

  /** "a number 0 to 99, without leading zeros". */
  private static void leadingZeros() {
    String[] orders = {"t", "d3=", "+0!"};
    for (String order : orders) {
      fault(order + "0", NONE);
      for (int digit = 0; digit <= 9; digit++) {
        fault(order + "0" + digit, order.length() + 1);
      }
      fault(order + "10", NONE);
      fault(order + "0;t1", NONE);
    }
  }

  /** "(also of a digit by which a number would be above 99)": that digit, not the number, is the fault. */
  private static void above99() {
    String[] orders = {"t", "d3=", "+0!"};
    for (String order : orders) {
      fault(order + "99", NONE);
      for (int digit = 0; digit <= 9; digit++) {
        fault(order + "10" + digit, order.length() + 2);
        fault(order + "99" + digit + ";t1", order.length() + 2);
      }
    }
    fault("t100x", 3);
    fault("t1;t100;x", 6);
  }

  /** 17: "if there is none and the text ends too early .., it is the length of the text". */
  private static void tooEarly() {
    String text = "f01^5;d3=44;+2:34!20?5;+1!9;t9";
    Set<Integer> whole = Set.of(5, 10, 11, 19, 20, 22, 27, 30);
    for (int length = 0; length <= text.length(); length++) {
      fault(text.substring(0, length), whole.contains(length) ? NONE : length);
    }
    fault("t1;x", 3);
    fault("t1;+0:", 6);
  }

  /** 17: the fault can be the last of 80 characters, or the length of 80. */
  private static void lastCharacterOfAFullPad() {
    StringBuilder text = new StringBuilder();
    for (int i = 0; i < 25; i++) {
      text.append("t1;");
    }
    fault(text + "d0=12", NONE);
    fault(text + "d0=1x", 79);
    fault(text + "d0=1;", 80);
    fault(text + "t1;t1", NONE);
    fault(text + "t1;t;", 79);
    fault(text + "+0:12", 80);
    fault(text + "t99;t", 80);
    fault(text + "t100;", 78);
  }

  /** 17: "Returns the fault of the pad": as often as it is asked, and with what is put behind it. */
  private static void faultLeavesThePad() {
    DonorParts x = with("+0");
    Due.is("too early", x.fault(), 2);
    Due.is("too early, still", x.fault(), 2);
    x.put('!');
    Due.is("too early, further on", x.fault(), 3);
    x.put('9');
    Due.is("whole", x.fault(), NONE);
    x.put('9');
    Due.is("whole with one more", x.fault(), NONE);
    x.put('9');
    Due.is("one too many", x.fault(), 5);
    x.put('9');
    Due.is("the first one that cannot stand", x.fault(), 5);
    Due.is("seven characters", x.count(8), 7);
  }
}
