import java.util.ArrayList;
import java.util.Arrays;
import java.util.List;

/**
 * Objects that are all made by the same calls. A call that changes nothing leaves an object that nothing can tell from
 * one on which it was not made: neither what it shows, nor its pad, its history, its slots, or what it does next.
 */
final class Twins {
  private static final int MOST_UNDONE = 6;

  interface Calls {
    void on(DonorParts x);
  }

  interface Call {
    int on(DonorParts x);
  }

  interface Probe {
    int[] of(DonorParts x);
  }

  private final String state;
  private final Calls made;
  private final List<Probe> probes = new ArrayList<>();
  private final List<int[]> untouched = new ArrayList<>();

  Twins(String state, Calls made) {
    this.state = state;
    this.made = made;
    probes.add(Look::at);
    for (int i = 1; i <= MOST_UNDONE + 1; i++) {
      int back = i;
      probes.add(x -> behind(x, undone(x, back)));
    }
    probes.add(x -> behind(x, x.restore(0)));
    probes.add(x -> behind(x, x.restore(1)));
    probes.add(x -> behind(x, x.carryOut()));
    probes.add(x -> behind(x, x.put(Due.packed("=7;t1")), x.carryOut()));
    probes.add(x -> behind(x, x.put(Due.packed("=7")), x.fault(), x.wipe()));
    probes.add(x -> behind(x, x.pass(3)));
    probes.add(x -> behind(x, x.thing(2, 4, 7, 3), x.fixer(9, 3), x.drawer(6, 6), x.giveUp(3), x.save(0)));
    probes.add(x -> behind(x, x.bestCare(20), x.withFixer(31, 2, 20), x.doneIn(0), x.doneIn(3), x.pass(1)));
    for (Probe probe : probes) {
      untouched.add(probe.of(another()));
    }
  }

  private DonorParts another() {
    DonorParts x = new DonorParts();
    made.on(x);
    return x;
  }

  private static int undone(DonorParts x, int times) {
    int answer = 0;
    for (int i = 0; i < times; i++) {
      answer = x.undo();
    }
    return answer;
  }

  /** The answers, and what the object shows behind them. */
  private static int[] behind(DonorParts x, int... answers) {
    int[] look = Look.at(x);
    int[] all = Arrays.copyOf(answers, answers.length + look.length);
    System.arraycopy(look, 0, all, answers.length, look.length);
    return all;
  }

  /** The call answers with what is due, and changes nothing. */
  void answers(String call, int due, Call asked) {
    for (int i = 0; i < probes.size(); i++) {
      DonorParts x = another();
      Due.is(state + ": " + call, asked.on(x), due);
      Due.holds(state + ": " + call + " changes nothing (probe " + i + ")",
          Arrays.equals(probes.get(i).of(x), untouched.get(i)));
    }
  }

  /** The call changes nothing, whatever it answers. */
  void asks(String call, Call asked) {
    answers(call, asked.on(another()), asked);
  }
}
