import java.util.Arrays;

/** All that can be asked of an object without changing it, in one row. It asks for what there is alone, since an object is asked 512 times at most. */
final class Look {
  private int[] seen = new int[400];
  private int many = 0;

  private Look() {
  }

  static int[] at(DonorParts x) {
    Look look = new Look();
    look.things(x);
    look.fixers(x);
    for (int part = 0; part < 8; part++) {
      for (int what = 0; what <= 3; what++) {
        look.add(x.ofPart(part, what));
      }
    }
    for (int what = 0; what <= 9; what++) {
      look.add(x.count(what));
    }
    look.add(x.scarcest());
    look.add(x.fault());
    return Arrays.copyOf(look.seen, look.many);
  }

  /** The same without the pad and the history, which undo() and restore() leave as they are. */
  static int[] atCafe(DonorParts x) {
    int[] all = at(x);
    int[] cafe = Arrays.copyOf(all, all.length - 3);
    cafe[cafe.length - 1] = all[all.length - 2];
    return cafe;
  }

  private void add(int answer) {
    seen[many] = answer;
    many++;
  }

  private void things(DonorParts x) {
    int things = x.count(1);
    for (int thing = 0; thing < things; thing++) {
      for (int what = 0; what <= 8; what++) {
        add(x.ofThing(thing, what));
      }
    }
  }

  private void fixers(DonorParts x) {
    int fixers = x.count(2);
    for (int fixer = 0; fixer < fixers; fixer++) {
      for (int what = 0; what <= 6; what++) {
        add(x.ofFixer(fixer, what));
      }
    }
  }
}
