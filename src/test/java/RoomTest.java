import com.sun.management.ThreadMXBean;
import java.lang.management.ManagementFactory;

/** An object answers up to its 512th call, and its calls make next to nothing: all of a run shares one room. */
public final class RoomTest {
  private static final int CALLS = 512, NONE = -6;
  private static final long MOST_AT_FIRST = 60_000, MOST_BY_CALLS = 1_000;

  private static final ThreadMXBean THREADS = (ThreadMXBean) ManagementFactory.getThreadMXBean();

  public static void main(String[] args) {
    upToTheLastCall();
    upToTheLastLook();
    for (int sort = 0; sort < 16; sort++) {
      long before = THREADS.getCurrentThreadAllocatedBytes();
      DonorParts x = full();
      long atFirst = THREADS.getCurrentThreadAllocatedBytes();
      for (int call = 37; call <= CALLS; call++) {
        dear(x, sort, call);
      }
      long then = THREADS.getCurrentThreadAllocatedBytes();
      Due.holds("an object of " + (atFirst - before) + " bytes", atFirst - before <= MOST_AT_FIRST);
      Due.holds("calls of the sort " + sort + " make " + (then - atFirst) + " bytes", then - atFirst <= MOST_BY_CALLS);
    }
    Due.end();
  }

  /** "An object is used for at most 512 calls after it has been made". */
  private static void upToTheLastCall() {
    DonorParts x = new DonorParts();
    for (int call = 1; call <= CALLS - 2; call++) {
      Due.is("call " + call, x.drawer(5, call % 100), call == 1 ? 1 : (call - 1) % 100);
    }
    Due.is("call 511", x.undo(), 5);
    Due.is("call 512", x.ofPart(5, 0), (CALLS - 3) % 100);
  }

  private static void upToTheLastLook() {
    DonorParts x = new DonorParts();
    x.thing(0, 0, 99, 1);
    for (int call = 2; call <= CALLS - 3; call += 3) {
      Due.is("call " + call, x.doneIn(0), 99);
      Due.is("call " + (call + 1), x.bestCare(2), 1);
      Due.is("call " + (call + 2), x.scarcest(), NONE);
    }
    Due.is("call 512", x.withFixer(1, 1, 300), 1);
  }

  /** With 36 calls behind it: four fixers, thirty things, and both slots used. */
  private static DonorParts full() {
    DonorParts x = new DonorParts();
    for (int i = 0; i < 4; i++) {
      x.fixer(63 >> i, i);
    }
    for (int i = 0; i < 30; i++) {
      x.thing(i % 6, 7 << i % 6, 99, 7);
    }
    x.save(0);
    x.save(1);
    return x;
  }

  private static int dear(DonorParts x, int sort, int call) {
    switch (sort) {
      case 0: return x.doneIn(call % 30);
      case 1: return x.withFixer(63, call % 10, 300);
      case 2: return x.bestCare(300);
      case 3: return x.save(call % 2);
      case 4: return x.restore(0);
      case 5: return call % 2 == 0 ? x.drawer(0, call % 100) : x.undo();
      case 6: return x.put(Due.packed("t1;")) < 0 ? x.wipe() : 0;
      case 7: return call % 2 == 0 ? x.put(0x64303d39L) : x.carryOut();
      case 8: return x.fault();
      case 9: return x.pass(99);
      case 10: return x.ofThing(call % 30, 8);
      case 11: return x.scarcest();
      case 12: return call % 3 == 0 ? x.giveUp(call % 30) : x.undo();
      case 13: return call % 2 == 0 ? x.fixer(1, 1) : x.undo();
      case 14: return x.ofFixer(call % 4, 6);
      default: return x.count(call % 10);
    }
  }
}
