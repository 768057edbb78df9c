/** Promise 4: what a tick does, in its order, and the instructions of a run. */
public final class TickTest {
  private static final int NONE = LeasedBuilds.NONE;
  private static final int NO_CUT = Play.NO_CUT;
  private static final int LOWEST = Integer.MIN_VALUE;
  private static final int HIGHEST = Integer.MAX_VALUE;

  private static final Checks CHECKS = new Checks();

  public static void main(String[] args) {
    instructions();
    workersThenServerThenClient();
    workersByNumber();
    endedLeasesGoToTheEnd();
    roundOfWorkers();
    heldWorkersArePassedOver();
    downNodes();
    asksAgain();
    asksOfALackCount();
    fullFlight();
    time();
    CHECKS.end();
  }

  private static void instructions() {
    run(0x0L, 5, 9, 5, 0);
    run(0x1L, 5, 9, 14, 1);
    run(0x1L, HIGHEST, 1, LOWEST, 1);
    run(0x2L, 5, 9, -4, 1);
    run(0x2L, LOWEST, 1, HIGHEST, 1);
    run(0x3L, 6, 3, 5, 1);
    run(0x4L, 9, 0, 4, 1);
    run(0x4L, -7, 0, -4, 1);
    run(0x5L, 5, 0, 16, 1);
    run(0x5L, HIGHEST, 0, 2147483646, 1);
    run(0x6L, 5, 9, 9, 1);
    run(0x26L, 5, 9, 4, 2);
    run(0x71L, 10, 3, 16, 8);
    run(0x71L, 10, 0, 10, 2);
    run(0x71L, 10, -1, 9, 2);
    run(0x58L, 3, 0, 3, 1);
    run(0x58L, -3, 0, -3, 1);
    run(0x58L, 4, 0, 13, 2);
    run(0x19L, 5, 9, 10, 2);
    run(0xAL, 5, 9, 9, 1);
    run(0xAL, -1, -2, -1, 1);
    run(0xFEDCBL, 5, 9, 5, 5);
    run(0x1011L, 5, 9, 23, 2);
    run(-1L, 5, 9, 5, 16);
    run(0x5555555555555555L, 0, 0, 21523360, 16);
    run(0x8111111111111111L, 1, 0, 1, 16);
    run(0x8111111111111111L, 1, 2, 31, 16);
  }

  private static void run(long program, int a, int b, int output, int instructions) {
    Play.run(CHECKS, program, a, b, output, instructions);
  }

  private static void workersThenServerThenClient() {
    LeasedBuilds x = Play.queued(2, 8, 0xBL, 6, 9);
    x.tick();
    x.deliver(0, NO_CUT);
    x.action(1L, 0, 1);
    x.tick();
    x.deliver(0, NO_CUT);
    x.action(2L, 0, 1);
    CHECKS.due("4: three sent", x.tick(), 3);
    CHECKS.due("4: in order", Play.flight(x), "50 42 10");
  }

  private static void workersByNumber() {
    LeasedBuilds x = new LeasedBuilds(2, 8);
    x.file(6);
    x.file(9);
    x.action(0L, 0, 1);
    x.action(0L, 1, 0);
    x.tick();
    CHECKS.due("4: two ASKs", Play.flight(x), "10 10");
    x.deliver(0, NO_CUT);
    x.deliver(1, NO_CUT);
    CHECKS.due("4: by the items' numbers", x.carried(1), 6);
    x.deliver(0, NO_CUT);
    Play.settle(x);
    x.tick();
    CHECKS.due("4: leased in the queue's order", Play.flight(x), "41 42");
    CHECKS.due("4: the first key", x.carried(0), 6);
    CHECKS.due("4: the second key", x.carried(1), 9);
    x.deliver(1, NO_CUT);
    x.deliver(0, NO_CUT);
    x.tick();
    CHECKS.due("4: two RESULTs", Play.flight(x), "50 50");
    CHECKS.due("4: that of worker 1 first", x.carried(0), 6);
    CHECKS.due("4: then that of worker 2", x.carried(1), 9);
  }

  private static void endedLeasesGoToTheEnd() {
    LeasedBuilds x = new LeasedBuilds(2, 3);
    for (int i = 0; i < 3; i++) {
      x.file(10 + i);
    }
    for (int i = 0; i < 3; i++) {
      x.action(0L, i, i);
    }
    x.tick();
    Play.settle(x);
    x.tick();
    CHECKS.due("4: two are leased", Play.flight(x), "41 42");
    CHECKS.due("4: one waits", x.waiting(), 1);
    Play.loseAll(x);
    CHECKS.due("4: leases last", Play.ticks(x, 2), 0);
    CHECKS.due("4: both end", x.tick(), 2);
    CHECKS.due("4: from worker 1 round", Play.flight(x), "41 42");
    CHECKS.due("4: the one that waited", x.carried(0), 12);
    CHECKS.due("4: then that of worker 1", x.carried(1), 10);
    CHECKS.due("4: that of worker 2 waits", x.waiting(), 1);
    CHECKS.due("4: leases given", x.count(2), 4);
  }

  private static void roundOfWorkers() {
    LeasedBuilds x = Play.queued(3, 1, 0L, 6, 9);
    int[] round = {1, 2, 3, 1};
    for (int w : round) {
      Play.loseAll(x);
      x.tick();
      CHECKS.due("4: leased to " + w, x.message(0), 40 + w);
      for (int other = 1; other <= 3; other++) {
        CHECKS.due("4: lease of " + other, x.lease(other), other == w ? 1 : NONE);
      }
    }
    Play.loseAll(x);
    x.crash(0);
    x.restart(0);
    x.tick();
    x.deliver(0, NO_CUT);
    x.tick();
    CHECKS.due("4: from worker 1 after a crash", Play.flight(x), "41");
  }

  /** Worker 1 is free and the latest lease is worker 2's: 3 is next, then 1, though 2 is held. */
  private static void heldWorkersArePassedOver() {
    LeasedBuilds x = Play.queued(3, 20, 0L, 6, 9);
    x.action(-1L, 0, 1);
    x.tick();
    x.deliver(0, NO_CUT);
    Play.settle(x);
    x.action(1L, 0, 1);
    x.action(2L, 0, 1);
    x.action(3L, 0, 1);
    x.tick();
    CHECKS.due("4: RESULT of 1, LEASE to 2, ASKs", Play.flight(x), "50 42 10 10 10");
    Play.settle(x);
    CHECKS.due("4: worker 1 is free", x.lease(1), NONE);
    x.tick();
    CHECKS.due("4: 3, then 1", Play.flight(x), "43 41");
    CHECKS.due("4: none is free", x.waiting(), 1);
    CHECKS.due("4: the lease of 2 goes on", x.lease(2), 19);
  }

  private static void downNodes() {
    LeasedBuilds x = Play.queued(2, 8, 0xBBBL, 6, 9);
    x.crash(1);
    x.tick();
    CHECKS.due("4: leased to a worker that is down", Play.flight(x), "41");
    x = Play.queued(2, 8, 0xBL, 6, 9);
    x.tick();
    x.deliver(0, NO_CUT);
    x.crash(0);
    x.action(1L, 0, 1);
    CHECKS.due("4: the client asks a server that is down", x.tick(), 1);
    CHECKS.due("4: a worker ends its job", x.tick(), 1);
    CHECKS.due("4: no lease is given", Play.flight(x), "10 50");
    CHECKS.due("4: the time goes on", x.count(8), 4);
  }

  private static void asksAgain() {
    LeasedBuilds x = new LeasedBuilds(2, 8);
    x.file(6);
    x.action(0L, 0, 0);
    CHECKS.due("4: ASK", x.tick(), 1);
    CHECKS.due("4: not before 5 ticks", Play.ticks(x, 4), 0);
    x.action(1L, 0, 0);
    x.action(1L, 2, 0);
    CHECKS.due("4: after 5 ticks, and for a new one", x.tick(), 2);
    CHECKS.due("4: not again before 5", Play.ticks(x, 4), 0);
    CHECKS.due("4: both again", x.tick(), 2);
  }

  private static void asksOfALackCount() {
    LeasedBuilds x = new LeasedBuilds(2, 8);
    x.file(6);
    x.action(0L, 0, 0);
    Play.ticks(x, 3);
    x.deliver(0, NO_CUT);
    x.deliver(0, NO_CUT);
    Play.loseAll(x);
    CHECKS.due("4: 5 ticks from the later ASK", Play.ticks(x, 4), 0);
    CHECKS.due("4: then again", x.tick(), 1);
  }

  private static void fullFlight() {
    LeasedBuilds x = new LeasedBuilds(2, 8);
    x.file(6);
    for (int i = 1; i < 10; i++) {
      x.action(i, 0, 0);
    }
    Play.ticks(x, 6);
    CHECKS.due("4: 18 fly", x.flying(), 18);
    Play.ticks(x, 4);
    CHECKS.due("4: those lost at once count", x.tick(), 9);
    CHECKS.due("4: 24 fly", x.flying(), 24);
    CHECKS.due("4: no message 24", x.message(24), NONE);
    x.lose(0);
    CHECKS.due("4: what was lost at once was sent", Play.ticks(x, 4), 0);
    CHECKS.due("4: sent again", x.tick(), 9);
    CHECKS.due("4: full again", x.flying(), 24);
    x.deliver(23, NO_CUT);
    CHECKS.due("4: a LACK in its place", x.message(23), 29);
    x.deliver(23, NO_CUT);
    CHECKS.due("4: the first PUT in its place, the rest lost", x.message(23), 30);
    CHECKS.due("4: still full", x.flying(), 24);
  }

  private static void time() {
    LeasedBuilds x = new LeasedBuilds(2, 8);
    CHECKS.due("4: nothing sent", Play.ticks(x, 30), 0);
    CHECKS.due("4: the time", x.count(8), 30);
  }
}
