/** Ways to play the network that many tests take. */
final class Play {
  static final int NO_CUT = -1;

  private Play() {}

  /** One program on two contents: its output, and how many instructions come before END. */
  static void run(Checks checks, long program, int a, int b, int output, int instructions) {
    String name = "program " + Long.toHexString(program) + " on " + a + " and " + b;
    LeasedBuilds x = queued(1, 40, program, a, b);
    x.tick();
    x.deliver(0, NO_CUT);
    for (int i = 0; i < instructions; i++) {
      checks.due(name + ", done", x.doing(1), i);
      x.tick();
    }
    checks.due(name + ", before END", x.doing(1), instructions);
    x.tick();
    checks.due(name + ", after END", x.doing(1), LeasedBuilds.NONE);
    int result = find(x, 50);
    checks.due(name + ", sent", x.message(result), 50);
    checks.due(name + ", output", x.carried(result), output);
  }

  /** Where the oldest message with this number of message(k) is; NONE when there is none. */
  static int find(LeasedBuilds x, int message) {
    for (int k = 0; k < x.flying(); k++) {
      if (x.message(k) == message) {
        return k;
      }
    }
    return LeasedBuilds.NONE;
  }

  /** Delivers the oldest message until none is in flight. */
  static void settle(LeasedBuilds x) {
    for (int i = 0; i < 100 && x.flying() > 0; i++) {
      x.deliver(0, NO_CUT);
    }
  }

  static void loseAll(LeasedBuilds x) {
    for (int i = 0; i < 24 && x.lose(0); i++) {
    }
  }

  static int ticks(LeasedBuilds x, int number) {
    int sent = 0;
    for (int i = 0; i < number; i++) {
      sent += x.tick();
    }
    return sent;
  }

  /** Files 0 and 1 and action 2 on them, with two PUTs and an ASK in flight at time 1. */
  static LeasedBuilds uploading(int a, int b) {
    LeasedBuilds x = new LeasedBuilds(2, 8);
    x.file(a);
    x.file(b);
    x.action(0L, 0, 1);
    x.tick();
    x.deliver(0, NO_CUT);
    x.deliver(0, NO_CUT);
    return x;
  }

  /** Files 0 and 1 and action 2 on them, whose key is in the queue at time 1. */
  static LeasedBuilds queued(int workers, int lease, long program, int a, int b) {
    LeasedBuilds x = new LeasedBuilds(workers, lease);
    x.file(a);
    x.file(b);
    x.action(program, 0, 1);
    x.tick();
    settle(x);
    return x;
  }

  /** File 0 and actions 1 to 9 on it, whose nine keys are in the queue at time 6. */
  static LeasedBuilds nineQueued(int workers, int lease) {
    LeasedBuilds x = new LeasedBuilds(workers, lease);
    x.file(6);
    x.action(1L, 0, 0);
    x.tick();
    settle(x);
    x.crash(0);
    x.restart(0);
    ticks(x, 4);
    for (int i = 2; i < 10; i++) {
      x.action(i, 0, 0);
    }
    x.tick();
    settle(x);
    return x;
  }

  /** The same as queued with a RESULT alone in flight: the program ends at once, so the time is 3. */
  static LeasedBuilds finished(int workers, int lease, int a, int b) {
    LeasedBuilds x = queued(workers, lease, 0L, a, b);
    x.tick();
    x.deliver(0, NO_CUT);
    x.tick();
    return x;
  }

  /** File 0 and actions 1 to 8 on it, with 24 ASKs in flight at time 11. */
  static LeasedBuilds full() {
    LeasedBuilds x = new LeasedBuilds(2, 8);
    x.file(6);
    for (int i = 1; i <= 8; i++) {
      x.action(i, 0, 0);
    }
    ticks(x, 11);
    return x;
  }

  /**
   * Worker 1 leased out for 20 ticks from time 2 on, its LEASE delivered or lost, and the flight
   * full of ASKs before the lease ends: the time is 18, and the next ASK is due at 21.
   */
  static LeasedBuilds fullWhileLeased(long program, boolean delivered) {
    LeasedBuilds x = queued(2, 20, program, 6, 9);
    x.tick();
    if (delivered) {
      x.deliver(0, NO_CUT);
    } else {
      x.lose(0);
    }
    for (int i = 3; i < 10; i++) {
      x.action(0x100L + i, 0, 1);
    }
    ticks(x, 16);
    return x;
  }

  /** The flight as the numbers of message(k), the oldest first. */
  static String flight(LeasedBuilds x) {
    StringBuilder text = new StringBuilder();
    for (int k = 0; k < x.flying(); k++) {
      text.append(k == 0 ? "" : " ").append(x.message(k));
    }
    return text.toString();
  }

  /** All that can be seen of a farm but its blobs, to see that a call changed nothing. */
  static String state(LeasedBuilds x) {
    StringBuilder text = new StringBuilder(flight(x));
    for (int k = 0; k < x.flying(); k++) {
      text.append(" carried ").append(x.carried(k));
    }
    for (int item = 0; item < 10; item++) {
      text.append(" item ").append(x.known(item)).append(' ').append(x.content(item));
    }
    for (int w = 1; w <= 4; w++) {
      text.append(" worker ").append(x.lease(w)).append(' ').append(x.doing(w));
    }
    text.append(" waiting ").append(x.waiting()).append(" counts");
    for (int which = 0; which < 10; which++) {
      text.append(' ').append(x.count(which));
    }
    return text.toString();
  }
}
