/** Ways to play the network that many tests take. */
final class Play {
  static final int NO_CUT = -1;

  private Play() {}

  /** Delivers the oldest message until none is in flight. */
  static void settle(LeasedBuilds x) {
    for (int i = 0; i < 100 && x.flying() > 0; i++) {
      x.deliver(0, NO_CUT);
    }
  }

  static void loseAll(LeasedBuilds x) {
    for (int i = 0; i < 24 && x.lose(0); i++) {
    }
  }

  static int ticks(LeasedBuilds x, int number) {
    int sent = 0;
    for (int i = 0; i < number; i++) {
      sent += x.tick();
    }
    return sent;
  }

  /** Files 0 and 1 and action 2 on them, with two PUTs and an ASK in flight at time 1. */
  static LeasedBuilds uploading(int a, int b) {
    LeasedBuilds x = new LeasedBuilds(2, 8);
    x.file(a);
    x.file(b);
    x.action(0L, 0, 1);
    x.tick();
    x.deliver(0, NO_CUT);
    x.deliver(0, NO_CUT);
    return x;
  }

  /** Files 0 and 1 and action 2 on them, whose key is in the queue at time 1. */
  static LeasedBuilds queued(int workers, int lease, long program, int a, int b) {
    LeasedBuilds x = new LeasedBuilds(workers, lease);
    x.file(a);
    x.file(b);
    x.action(program, 0, 1);
    x.tick();
    settle(x);
    return x;
  }

  /** The same with a RESULT alone in flight: the program ends at once, so the time is 3. */
  static LeasedBuilds finished(int workers, int lease, int a, int b) {
    LeasedBuilds x = queued(workers, lease, 0L, a, b);
    x.tick();
    x.deliver(0, NO_CUT);
    x.tick();
    return x;
  }

  /** The flight as the numbers of message(k), the oldest first. */
  static String flight(LeasedBuilds x) {
    StringBuilder text = new StringBuilder();
    for (int k = 0; k < x.flying(); k++) {
      text.append(k == 0 ? "" : " ").append(x.message(k));
    }
    return text.toString();
  }

  /** All that can be seen of a small farm, to see that a call changed nothing. */
  static String state(LeasedBuilds x) {
    StringBuilder text = new StringBuilder(flight(x));
    for (int k = 0; k < x.flying(); k++) {
      text.append(" carried ").append(x.carried(k));
    }
    for (int item = 0; item < 4; item++) {
      text.append(" item ").append(x.known(item)).append(' ').append(x.content(item));
    }
    for (int w = 1; w <= 4; w++) {
      text.append(" worker ").append(x.lease(w)).append(' ').append(x.doing(w));
    }
    text.append(" waiting ").append(x.waiting()).append(" counts");
    for (int which = 0; which < 10; which++) {
      text.append(' ').append(x.count(which));
    }
    return text.toString();
  }
}
