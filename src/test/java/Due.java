/** What the tests share: compares answers, counts the wrong ones, and ends with exit code 1 if there was one. */
final class Due {
  private static int wrong = 0;
  private static int asked = 0;

  private Due() {
  }

  static void is(String what, long answer, long due) {
    asked++;
    if (answer != due) {
      wrong++;
      if (wrong <= 50) {
        System.out.println(what + ": answered " + answer + ", due is " + due);
      }
    }
  }

  static void holds(String what, boolean fact) {
    is(what, fact ? 1 : 0, 1);
  }

  /** Puts a whole text on the pad, in pieces of at most 8 characters. */
  static void write(DonorParts x, String text) {
    for (int from = 0; from < text.length(); from += 8) {
      x.put(packed(text.substring(from, Math.min(text.length(), from + 8))));
    }
  }

  static long packed(String piece) {
    long characters = 0;
    for (int i = 0; i < piece.length(); i++) {
      characters = characters << 8 | piece.charAt(i);
    }
    return characters;
  }

  static void end() {
    System.out.println(asked + " answers, " + wrong + " wrong");
    if (wrong != 0 || asked == 0) {
      System.exit(1);
    }
  }
}
