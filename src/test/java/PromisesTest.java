/** For each promise: ordinary inputs, the edges that the document names, and wrong inputs. */
public final class PromisesTest {
  private static final int NONE = LeasedBuilds.NONE;
  private static final int NO_CUT = Play.NO_CUT;
  private static final int LOWEST = Integer.MIN_VALUE;
  private static final int HIGHEST = Integer.MAX_VALUE;

  private static final Checks CHECKS = new Checks();

  public static void main(String[] args) {
    newObject();
    file();
    action();
    deliver();
    lose();
    spoil();
    crash();
    restart();
    collect();
    flyingMessageCarried();
    knownContent();
    digestStored();
    waitingLeaseDoing();
    count();
    CHECKS.end();
  }

  // Promise 1

  private static void newObject() {
    int[] askedFor = {1, 2, 3, 4, 0, 5, -1, LOWEST, HIGHEST};
    int[] workers = {1, 2, 3, 4, 2, 2, 2, 2, 2};
    for (int i = 0; i < askedFor.length; i++) {
      LeasedBuilds x = new LeasedBuilds(askedFor[i], 8);
      CHECKS.due("1: last worker of " + askedFor[i], x.crash(workers[i]), true);
      CHECKS.due("1: one more than " + askedFor[i], x.crash(workers[i] + 1), false);
    }
    int[] lengths = {1, 2, 40, 0, 41, -1, LOWEST, HIGHEST};
    int[] due = {1, 2, 40, 8, 8, 8, 8, 8};
    for (int i = 0; i < lengths.length; i++) {
      LeasedBuilds x = Play.queued(1, lengths[i], 0L, 1, 2);
      x.tick();
      CHECKS.due("1: lease of length " + lengths[i], x.lease(1), due[i]);
    }
    LeasedBuilds fresh = new LeasedBuilds(3, 8);
    for (int which = 0; which < 10; which++) {
      CHECKS.due("1: count " + which, fresh.count(which), 0);
    }
    CHECKS.due("1: flying", fresh.flying(), 0);
    CHECKS.due("1: waiting", fresh.waiting(), 0);
    CHECKS.due("1: known", fresh.known(0), false);
    CHECKS.due("1: tick", fresh.tick(), 0);
    for (int node = 0; node <= 3; node++) {
      CHECKS.due("1: up is node " + node, fresh.restart(node), false);
    }
  }

  // Promise 2

  private static void file() {
    LeasedBuilds x = new LeasedBuilds(2, 8);
    for (int i = 0; i < 10; i++) {
      int content = i == 8 ? LOWEST : i == 9 ? HIGHEST : 7;
      CHECKS.due("2: file", x.file(content), i);
    }
    CHECKS.due("2: eleventh", x.file(5), NONE);
    CHECKS.due("2: no item 10", x.known(10), false);
    CHECKS.due("2: the same content twice", x.content(1), 7);
    CHECKS.due("2: least content", x.content(8), LOWEST);
    CHECKS.due("2: greatest content", x.content(9), HIGHEST);
    CHECKS.due("2: no action", x.count(9), 0);
    CHECKS.due("2: nothing to ask", x.tick(), 0);
  }

  // Promise 3

  private static void action() {
    LeasedBuilds x = new LeasedBuilds(2, 8);
    CHECKS.due("3: no item yet", x.action(0L, 0, 0), NONE);
    x.file(3);
    int[] wrong = {1, -1, 10, LOWEST, HIGHEST};
    for (int input : wrong) {
      CHECKS.due("3: a is " + input, x.action(0L, input, 0), NONE);
      CHECKS.due("3: b is " + input, x.action(0L, 0, input), NONE);
    }
    CHECKS.due("3: nothing changed", x.count(9), 0);
    for (int i = 1; i < 10; i++) {
      CHECKS.due("3: action", x.action(-1L, i - 1, 0), i);
    }
    CHECKS.due("3: eleventh", x.action(0L, 0, 0), NONE);
    CHECKS.due("3: full for files too", x.file(1), NONE);
    CHECKS.due("3: unknown", x.count(9), 9);
    CHECKS.due("3: only one is ready", x.tick(), 1);
  }

  // Promise 5

  private static void deliver() {
    noSuchMessage();
    downReceivers();
    asks();
    lacks();
    leasesReplaceJobs();
    results();
    answers();
    cutsOfPuts();
    cutsOfResults();
  }

  private static void noSuchMessage() {
    LeasedBuilds x = Play.finished(2, 8, 6, 9);
    String before = Play.state(x);
    int[] wrong = {-1, 1, 24, LOWEST, HIGHEST};
    for (int k : wrong) {
      CHECKS.due("5: message " + k, x.deliver(k, 0), NONE);
    }
    CHECKS.due("5: nothing changed", Play.state(x), before);
  }

  private static void downReceivers() {
    LeasedBuilds x = Play.finished(1, 40, 6, 9);
    x.spoil(0);
    x.crash(0);
    CHECKS.due("5: server down", x.deliver(0, 0), 0);
    CHECKS.due("5: it left the flight", x.flying(), 0);
    CHECKS.due("5: not refused", x.count(5), 0);
    CHECKS.due("5: no crash by a cut", x.count(7), 0);
    x = Play.queued(1, 40, 0L, 6, 9);
    x.tick();
    x.crash(1);
    CHECKS.due("5: worker down", x.deliver(0, NO_CUT), 0);
    x.restart(1);
    CHECKS.due("5: no job", x.doing(1), NONE);
  }

  private static void asks() {
    LeasedBuilds x = Play.queued(2, 8, 0L, 6, 9);
    CHECKS.due("5: in the queue", x.waiting(), 1);
    Play.ticks(x, 5);
    CHECKS.due("5: LEASE and ASK again", Play.flight(x), "41 10");
    CHECKS.due("5: ASK in a lease", x.deliver(1, NO_CUT), 1);
    CHECKS.due("5: not in the queue too", x.waiting(), 0);
    CHECKS.due("5: no message for it", x.flying(), 1);
    x = Play.queued(2, 8, 0L, 6, 9);
    x.action(0L, 0, 1);
    x.crash(0);
    x.restart(0);
    Play.ticks(x, 5);
    CHECKS.due("5: two ASKs of one key", Play.flight(x), "10 10");
    Play.settle(x);
    CHECKS.due("5: once in the queue", x.waiting(), 1);
    x = Play.queued(2, 8, 0L, 6, 9);
    x.action(1L, 0, 1);
    x.action(0L, 1, 0);
    x.action(0L, 0, 0);
    x.tick();
    Play.loseAll(x);
    Play.ticks(x, 5);
    Play.settle(x);
    CHECKS.due("5: other keys", x.count(2) + x.waiting(), 4);
  }

  private static void lacks() {
    LeasedBuilds x = new LeasedBuilds(2, 8);
    x.file(6);
    x.file(9);
    x.action(0L, 0, 1);
    x.tick();
    x.deliver(0, NO_CUT);
    CHECKS.due("5: LACK", Play.flight(x), "29");
    CHECKS.due("5: LACK delivered", x.deliver(0, NO_CUT), 2);
    CHECKS.due("5: both lacking", Play.flight(x), "30 30 10");
    CHECKS.due("5: a first", x.carried(0), 6);
    CHECKS.due("5: then b", x.carried(1), 9);
    x.lose(0);
    x.deliver(0, NO_CUT);
    x.deliver(0, NO_CUT);
    x.deliver(0, NO_CUT);
    CHECKS.due("5: only a lacking", Play.flight(x), "30 10");
    CHECKS.due("5: it is a", x.carried(0), 6);
    x.deliver(0, NO_CUT);
    x.collect();
    x.action(0L, 0, 0);
    x.tick();
    x.deliver(1, NO_CUT);
    x.deliver(1, NO_CUT);
    CHECKS.due("5: a PUT for each of the same", Play.flight(x), "10 30 30 10");
    lackOfTheSecond();
    lackOfAKnownAction();
  }

  private static void lackOfTheSecond() {
    LeasedBuilds x = Play.uploading(6, 9);
    x.lose(1);
    x.deliver(0, NO_CUT);
    x.deliver(0, NO_CUT);
    x.deliver(0, NO_CUT);
    CHECKS.due("5: only b lacking", Play.flight(x), "30 10");
    CHECKS.due("5: it is b", x.carried(0), 9);
  }

  private static void lackOfAKnownAction() {
    LeasedBuilds x = new LeasedBuilds(1, 40);
    x.file(6);
    x.action(0L, 0, 0);
    x.tick();
    x.deliver(0, NO_CUT);
    Play.ticks(x, 5);
    x.deliver(1, NO_CUT);
    CHECKS.due("5: two LACKs", Play.flight(x), "29 29");
    x.deliver(0, NO_CUT);
    for (int i = 0; i < 3; i++) {
      x.deliver(1, NO_CUT);
    }
    x.tick();
    x.deliver(1, NO_CUT);
    x.tick();
    x.deliver(1, NO_CUT);
    x.deliver(1, NO_CUT);
    CHECKS.due("5: action known", x.known(1), true);
    CHECKS.due("5: a LACK is left", Play.flight(x), "29");
    CHECKS.due("5: LACK of a known action", x.deliver(0, NO_CUT), 2);
    CHECKS.due("5: it does nothing", x.flying(), 0);
  }

  private static void leasesReplaceJobs() {
    LeasedBuilds x = Play.queued(1, 2, 0xBBBBBL, 6, 9);
    x.tick();
    x.deliver(0, NO_CUT);
    Play.ticks(x, 2);
    CHECKS.due("5: two done", x.doing(1), 2);
    CHECKS.due("5: leased again", Play.flight(x), "41");
    CHECKS.due("5: LEASE", x.deliver(0, NO_CUT), 4);
    CHECKS.due("5: from its beginning", x.doing(1), 0);
    CHECKS.due("5: one job ends", Play.ticks(x, 6), 5);
    CHECKS.due("5: with one RESULT", Play.flight(x), "41 10 41 50 41");
    CHECKS.due("5: no job", x.doing(1), NONE);
  }

  private static void results() {
    LeasedBuilds x = Play.finished(2, 8, 6, 9);
    CHECKS.due("5: the RESULT", Play.flight(x), "50");
    CHECKS.due("5: RESULT", x.deliver(0, NO_CUT), 5);
    CHECKS.due("5: an ANSWER", Play.flight(x), "69");
    CHECKS.due("5: with the content", x.carried(0), 6);
    CHECKS.due("5: the lease ended", x.lease(1), NONE);
    CHECKS.due("5: a result", x.count(1), 1);
    CHECKS.due("5: no upload by a RESULT", x.count(3), 2);
    resultForAQueuedKey();
    resultForALeaseOfAnother();
    outputThatIsNew();
  }

  private static void resultForAQueuedKey() {
    LeasedBuilds x = Play.finished(2, 8, 6, 9);
    x.action(0L, 1, 0);
    x.crash(0);
    x.restart(0);
    Play.ticks(x, 3);
    CHECKS.due("5: two ASKs", Play.flight(x), "50 10 10");
    x.deliver(1, NO_CUT);
    x.deliver(1, NO_CUT);
    CHECKS.due("5: both keys wait", x.waiting(), 2);
    x.deliver(0, NO_CUT);
    CHECKS.due("5: one left the queue", x.waiting(), 1);
    x.tick();
    CHECKS.due("5: the other is leased", x.carried(1), 9);
  }

  private static void resultForALeaseOfAnother() {
    LeasedBuilds x = Play.queued(2, 1, 0L, 6, 9);
    x.tick();
    x.deliver(0, NO_CUT);
    x.tick();
    CHECKS.due("5: leased to worker 2 now", Play.flight(x), "50 42");
    CHECKS.due("5: its lease", x.lease(2), 1);
    x.deliver(0, NO_CUT);
    CHECKS.due("5: it ended", x.lease(2), NONE);
    CHECKS.due("5: nothing waits", x.waiting(), 0);
    x.deliver(0, NO_CUT);
    x.tick();
    CHECKS.due("5: ANSWER and another RESULT", Play.flight(x), "69 50");
    CHECKS.due("5: duplicate", x.deliver(1, 0), 5);
    CHECKS.due("5: counted", x.count(6), 1);
    CHECKS.due("5: no second ANSWER", x.flying(), 1);
    CHECKS.due("5: no second result", x.count(1), 1);
    CHECKS.due("5: no write, no cut", x.count(7), 0);
  }

  private static void outputThatIsNew() {
    LeasedBuilds x = Play.queued(1, 8, 1L, 6, 9);
    x.tick();
    x.deliver(0, NO_CUT);
    Play.ticks(x, 2);
    x.deliver(0, NO_CUT);
    CHECKS.due("5: the output is stored", x.stored(x.digest(15)), true);
    CHECKS.due("5: as a third blob", x.count(0), 3);
    CHECKS.due("5: that is no upload", x.count(3), 2);
  }

  private static void answers() {
    LeasedBuilds x = new LeasedBuilds(1, 8);
    x.file(6);
    x.action(0L, 0, 0);
    x.action(0L, 1, 1);
    x.action(0L, 2, 0);
    x.action(0xBL, 0, 0);
    x.file(9);
    x.action(0L, 0, 5);
    x.action(0L, 4, 4);
    x.tick();
    x.lose(1);
    x.lose(1);
    Play.settle(x);
    x.tick();
    x.deliver(0, NO_CUT);
    x.tick();
    x.deliver(0, NO_CUT);
    CHECKS.due("5: ANSWER", x.deliver(0, NO_CUT), 6);
    CHECKS.due("5: the action", x.content(1), 6);
    CHECKS.due("5: one that became ready", x.content(2), 6);
    CHECKS.due("5: one that became ready by that", x.content(3), 6);
    CHECKS.due("5: another program", x.known(4), false);
    CHECKS.due("5: another input", x.known(6), false);
    CHECKS.due("5: one that is not ready", x.known(7), false);
    CHECKS.due("5: unknown are left", x.count(9), 3);
    x.action(0L, 3, 3);
    Play.loseAll(x);
    x.tick();
    CHECKS.due("5: a new action is asked for", Play.flight(x), "10");
    x.deliver(0, NO_CUT);
    CHECKS.due("5: a hit", x.count(4), 1);
    CHECKS.due("5: ANSWER of a hit", Play.flight(x), "69");
    CHECKS.due("5: its content", x.carried(0), 6);
    x.deliver(0, NO_CUT);
    CHECKS.due("5: known by a hit", x.content(8), 6);
  }

  private static void cutsOfPuts() {
    int[] cuts = {0, 1, HIGHEST, -1, LOWEST};
    for (int cut : cuts) {
      LeasedBuilds x = new LeasedBuilds(2, 8);
      x.file(6);
      x.action(0L, 0, 0);
      x.tick();
      x.deliver(0, cut);
      x.deliver(0, cut);
      CHECKS.due("5: no write, no cut", x.count(7), 0);
      CHECKS.due("5: PUT", x.deliver(0, cut), 3);
      CHECKS.due("5: crash at cut " + cut, x.count(7), cut == 0 ? 1 : 0);
      CHECKS.due("5: down at cut " + cut, x.restart(0), cut == 0);
      CHECKS.due("5: blob at cut " + cut, x.stored(x.digest(6)), cut != 0);
      CHECKS.due("5: upload at cut " + cut, x.count(3), cut == 0 ? 0 : 1);
      x.deliver(0, NO_CUT);
      CHECKS.due("5: uploads now", x.count(3), 1);
    }
    LeasedBuilds x = new LeasedBuilds(2, 8);
    x.file(6);
    x.action(0L, 0, 0);
    x.tick();
    x.deliver(0, NO_CUT);
    x.deliver(0, NO_CUT);
    x.deliver(0, NO_CUT);
    CHECKS.due("5: PUT of a stored blob", x.deliver(0, 0), 3);
    CHECKS.due("5: no write, no crash", x.count(7), 0);
    CHECKS.due("5: one upload", x.count(3), 1);
  }

  private static void cutsOfResults() {
    int[] cuts = {0, 1, 2, HIGHEST, -1, LOWEST};
    for (int cut : cuts) {
      boolean crashed = cut == 0 || cut == 1;
      LeasedBuilds x = Play.queued(2, 20, 1L, 6, 9);
      x.tick();
      x.deliver(0, NO_CUT);
      Play.ticks(x, 2);
      CHECKS.due("5: RESULT", x.deliver(0, cut), 5);
      CHECKS.due("5: crashes at cut " + cut, x.count(7), crashed ? 1 : 0);
      CHECKS.due("5: blob at cut " + cut, x.stored(x.digest(15)), cut != 0);
      CHECKS.due("5: blobs at cut " + cut, x.count(0), cut == 0 ? 2 : 3);
      CHECKS.due("5: results at cut " + cut, x.count(1), crashed ? 0 : 1);
      CHECKS.due("5: ANSWER at cut " + cut, x.flying(), crashed ? 0 : 1);
      CHECKS.due("5: lease at cut " + cut, x.lease(1), NONE);
      CHECKS.due("5: down at cut " + cut, x.restart(0), crashed);
      CHECKS.due("5: collected at cut " + cut, x.collect(), crashed && cut == 1 ? 3 : 2);
    }
    for (int cut = 0; cut <= 1; cut++) {
      LeasedBuilds x = Play.finished(2, 8, 6, 9);
      x.deliver(0, cut);
      CHECKS.due("5: only one write, cut " + cut, x.count(7), cut == 0 ? 1 : 0);
      CHECKS.due("5: only one write, result, cut " + cut, x.count(1), cut);
    }
  }

  // Promise 6

  private static void lose() {
    LeasedBuilds x = Play.uploading(6, 9);
    String before = Play.state(x);
    int[] wrong = {-1, 3, 24, LOWEST, HIGHEST};
    for (int k : wrong) {
      CHECKS.due("6: message " + k, x.lose(k), false);
    }
    CHECKS.due("6: nothing changed", Play.state(x), before);
    CHECKS.due("6: the middle one", x.lose(1), true);
    CHECKS.due("6: the others stay", Play.flight(x), "30 10");
    CHECKS.due("6: the oldest is the same", x.carried(0), 6);
    CHECKS.due("6: the newest", x.lose(1), true);
    CHECKS.due("6: the oldest", x.lose(0), true);
    CHECKS.due("6: none is left", x.lose(0), false);
    CHECKS.due("6: undelivered", x.count(3), 0);
  }

  // Promise 7

  private static void spoil() {
    spoilPut();
    spoilLease();
    LeasedBuilds x = Play.finished(2, 8, 6, 9);
    CHECKS.due("7: RESULT", x.spoil(0), true);
    CHECKS.due("7: its content", x.carried(0), 7);
    CHECKS.due("7: refused RESULT", x.deliver(0, 0), 5);
    CHECKS.due("7: refused", x.count(5), 1);
    CHECKS.due("7: no result", x.count(1), 0);
    CHECKS.due("7: no crash", x.count(7), 0);
    CHECKS.due("7: the lease stays", x.lease(1), 7);
    x = Play.finished(2, 8, 6, 9);
    x.deliver(0, NO_CUT);
    CHECKS.due("7: ANSWER", x.spoil(0), true);
    CHECKS.due("7: refused ANSWER", x.deliver(0, NO_CUT), 6);
    CHECKS.due("7: not known", x.known(2), false);
    CHECKS.due("7: ANSWER refused", x.count(5), 1);
  }

  private static void spoilPut() {
    LeasedBuilds x = new LeasedBuilds(2, 8);
    x.file(-1);
    x.action(0L, 0, 0);
    x.tick();
    CHECKS.due("7: ASK", x.spoil(0), false);
    x.deliver(0, NO_CUT);
    CHECKS.due("7: LACK", x.spoil(0), false);
    x.deliver(0, NO_CUT);
    String before = Play.state(x);
    int[] wrong = {-1, 3, 24, LOWEST, HIGHEST, 2};
    for (int k : wrong) {
      CHECKS.due("7: message " + k, x.spoil(k), false);
    }
    CHECKS.due("7: nothing changed", Play.state(x), before);
    CHECKS.due("7: PUT", x.spoil(0), true);
    CHECKS.due("7: the lowest bit", x.carried(0), -2);
    CHECKS.due("7: the other PUT is whole", x.carried(1), -1);
    CHECKS.due("7: refused PUT", x.deliver(0, 0), 3);
    CHECKS.due("7: no blob", x.count(0), 0);
    CHECKS.due("7: PUT refused", x.count(5), 1);
    x.spoil(0);
    CHECKS.due("7: again", x.spoil(0), true);
    CHECKS.due("7: restored", x.carried(0), -1);
    x.deliver(0, NO_CUT);
    CHECKS.due("7: accepted", x.count(0), 1);
    CHECKS.due("7: not refused", x.count(5), 1);
  }

  private static void spoilLease() {
    LeasedBuilds x = Play.queued(2, 8, 0L, 6, 9);
    x.tick();
    CHECKS.due("7: LEASE", x.spoil(0), true);
    CHECKS.due("7: the content of a", x.carried(0), 7);
    CHECKS.due("7: refused LEASE", x.deliver(0, NO_CUT), 4);
    CHECKS.due("7: no job", x.doing(1), NONE);
    CHECKS.due("7: LEASE refused", x.count(5), 1);
    CHECKS.due("7: the lease stays", x.lease(1), 8);
  }

  // Promises 8 and 9

  private static void crash() {
    LeasedBuilds x = Play.queued(2, 20, 0xBBBBBBBBBBL, 6, 9);
    x.action(1L, 0, 1);
    x.action(2L, 0, 1);
    x.tick();
    x.deliver(0, NO_CUT);
    Play.settle(x);
    x.tick();
    x.deliver(0, NO_CUT);
    CHECKS.due("8: one waits", x.waiting(), 1);
    int[] wrong = {-1, 3, 9, LOWEST, HIGHEST};
    String before = Play.state(x);
    for (int node : wrong) {
      CHECKS.due("8: node " + node, x.crash(node), false);
      CHECKS.due("9: node " + node, x.restart(node), false);
    }
    CHECKS.due("8: nothing changed", Play.state(x), before);
    CHECKS.due("8: worker 1 works", x.doing(1), 1);
    CHECKS.due("8: worker 1", x.crash(1), true);
    CHECKS.due("8: loses its job", x.doing(1), NONE);
    CHECKS.due("8: not its lease", x.lease(1), 19);
    CHECKS.due("8: worker 2 works on", x.doing(2), 0);
    CHECKS.due("8: worker 1 again", x.crash(1), false);
    CHECKS.due("8: server", x.crash(0), true);
    CHECKS.due("8: server again", x.crash(0), false);
    CHECKS.due("8: loses its queue", x.waiting(), 0);
    CHECKS.due("8: loses its leases", x.lease(1), NONE);
    CHECKS.due("8: all its leases", x.lease(2), NONE);
    CHECKS.due("8: keeps the disk", x.count(0), 2);
    CHECKS.due("8: blob", x.stored(x.digest(9)), true);
    CHECKS.due("8: counts are kept", x.count(2), 2);
    CHECKS.due("8: no crash by a cut", x.count(7), 0);
    CHECKS.due("8: workers do not crash with it", x.doing(2), 0);
    CHECKS.due("8: a job goes on, nobody leases", x.tick(), 0);
    CHECKS.due("8: worker 2 did one", x.doing(2), 1);
  }

  private static void restart() {
    LeasedBuilds x = Play.queued(3, 8, 0xBBBL, 6, 9);
    x.tick();
    x.deliver(0, NO_CUT);
    CHECKS.due("9: server is up", x.restart(0), false);
    CHECKS.due("9: worker is up", x.restart(1), false);
    CHECKS.due("9: it keeps its job", x.doing(1), 0);
    CHECKS.due("9: and its lease", x.lease(1), 8);
    x.crash(1);
    CHECKS.due("9: worker 1", x.restart(1), true);
    CHECKS.due("9: no job", x.doing(1), NONE);
    CHECKS.due("9: no job to do", x.tick(), 0);
    CHECKS.due("9: up again", x.restart(1), false);
    x.crash(0);
    CHECKS.due("9: server", x.restart(0), true);
    CHECKS.due("9: no queue", x.waiting(), 0);
    CHECKS.due("9: no lease", x.lease(1), NONE);
    Play.ticks(x, 3);
    Play.settle(x);
    CHECKS.due("9: queued again", x.waiting(), 1);
    x.tick();
    CHECKS.due("9: leased from worker 1 on", Play.flight(x), "41");
  }

  // Promise 10

  private static void collect() {
    LeasedBuilds x = Play.queued(1, 40, 5L, 6, 9);
    CHECKS.due("10: the queue's are kept", x.collect(), 0);
    x.tick();
    CHECKS.due("10: the lease's are kept", x.collect(), 0);
    x.file(11);
    x.action(0L, 3, 0);
    x.deliver(0, NO_CUT);
    x.tick();
    Play.settle(x);
    CHECKS.due("10: queue and lease", x.collect(), 0);
    CHECKS.due("10: three blobs", x.count(0), 3);
    x.tick();
    x.deliver(0, NO_CUT);
    CHECKS.due("10: b of the result goes", x.collect(), 1);
    CHECKS.due("10: that was 9", x.stored(x.digest(9)), false);
    CHECKS.due("10: a of a waiting key", x.stored(x.digest(11)), true);
    CHECKS.due("10: b of a waiting key", x.stored(x.digest(6)), true);
    CHECKS.due("10: the output", x.stored(x.digest(19)), true);
    x.crash(0);
    String before = Play.state(x);
    CHECKS.due("10: down", x.collect(), NONE);
    CHECKS.due("10: nothing changed", Play.state(x), before);
    x.restart(0);
    CHECKS.due("10: no key, no need", x.collect(), 2);
    CHECKS.due("10: the output is kept", x.stored(x.digest(19)), true);
    CHECKS.due("10: alone", x.count(0), 1);
    CHECKS.due("10: again", x.collect(), 0);
    x.deliver(0, NO_CUT);
    CHECKS.due("10: the client knows it", x.content(2), 19);
  }

  // Promises 11, 12 and 13

  private static void flyingMessageCarried() {
    LeasedBuilds x = new LeasedBuilds(4, 8);
    x.file(6);
    x.file(9);
    x.action(1L, 0, 1);
    CHECKS.due("11: none", x.flying(), 0);
    CHECKS.due("12: none", x.message(0), NONE);
    CHECKS.due("13: none", x.carried(0), 0);
    x.tick();
    CHECKS.due("11: one", x.flying(), 1);
    CHECKS.due("12: ASK", x.message(0), 10);
    CHECKS.due("13: ASK", x.carried(0), 0);
    x.deliver(0, NO_CUT);
    CHECKS.due("12: LACK", x.message(0), 29);
    CHECKS.due("13: LACK", x.carried(0), 0);
    x.deliver(0, NO_CUT);
    CHECKS.due("11: three", x.flying(), 3);
    CHECKS.due("12: PUT", x.message(1), 30);
    CHECKS.due("13: PUT", x.carried(1), 9);
    int[] wrong = {-1, 3, 24, LOWEST, HIGHEST};
    for (int k : wrong) {
      CHECKS.due("12: message " + k, x.message(k), NONE);
      CHECKS.due("13: message " + k, x.carried(k), 0);
    }
    Play.settle(x);
    x.tick();
    CHECKS.due("12: LEASE", x.message(0), 41);
    CHECKS.due("13: LEASE", x.carried(0), 6);
    x.deliver(0, NO_CUT);
    Play.ticks(x, 2);
    CHECKS.due("12: RESULT", x.message(0), 50);
    CHECKS.due("13: RESULT", x.carried(0), 15);
    x.deliver(0, NO_CUT);
    CHECKS.due("12: ANSWER", x.message(0), 69);
    CHECKS.due("13: ANSWER", x.carried(0), 15);
    x = Play.queued(4, 1, 0L, 6, 9);
    Play.ticks(x, 4);
    CHECKS.due("12: LEASEs to all", Play.flight(x), "41 42 43 44");
  }

  // Promises 14 and 15

  private static void knownContent() {
    LeasedBuilds x = Play.finished(2, 8, 6, 9);
    CHECKS.due("14: file", x.known(1), true);
    CHECKS.due("15: file", x.content(1), 9);
    CHECKS.due("14: action", x.known(2), false);
    CHECKS.due("15: action", x.content(2), 0);
    x.deliver(0, NO_CUT);
    CHECKS.due("14: before the ANSWER", x.known(2), false);
    x.deliver(0, NO_CUT);
    CHECKS.due("14: after the ANSWER", x.known(2), true);
    CHECKS.due("15: after the ANSWER", x.content(2), 6);
    int[] wrong = {-1, 3, 10, LOWEST, HIGHEST};
    for (int item : wrong) {
      CHECKS.due("14: item " + item, x.known(item), false);
      CHECKS.due("15: item " + item, x.content(item), 0);
    }
    Play.ticks(x, 6);
    CHECKS.due("14: no ASK for what is known", x.flying(), 0);
  }

  // Promises 16 and 17

  private static void digestStored() {
    LeasedBuilds x = new LeasedBuilds(2, 8);
    CHECKS.due("16: 0", x.digest(0), 0);
    CHECKS.due("16: 1", x.digest(1), -1861094109);
    int[] contents = {2, -1, LOWEST, HIGHEST, 123456789, -987654321};
    for (int c : contents) {
      CHECKS.due("16: " + c, x.digest(c), digestInLongs(c));
    }
    CHECKS.due("17: nothing", x.stored(0), false);
    x.file(0);
    x.file(9);
    x.action(0L, 0, 1);
    x.tick();
    Play.settle(x);
    CHECKS.due("17: digest 0", x.stored(0), true);
    CHECKS.due("17: 9", x.stored(x.digest(9)), true);
    CHECKS.due("17: a content is no digest", x.stored(9), false);
    CHECKS.due("17: 8", x.stored(x.digest(8)), false);
    x.crash(0);
    CHECKS.due("17: while down", x.stored(x.digest(9)), true);
  }

  /** The same in numbers that do not wrap, kept to 32 bits by hand. */
  private static int digestInLongs(int content) {
    long mask = 0xFFFFFFFFL;
    long d = ((content & mask) * 1234567891L) & mask;
    long e = d ^ (d / 2048);
    return (int) ((e * 987654321L) & mask);
  }

  // Promises 18, 19 and 20

  private static void waitingLeaseDoing() {
    LeasedBuilds x = Play.queued(2, 3, 0x71L, 6, 1);
    CHECKS.due("18: one", x.waiting(), 1);
    CHECKS.due("19: none yet", x.lease(1), NONE);
    x.tick();
    CHECKS.due("18: leased", x.waiting(), 0);
    CHECKS.due("19: whole", x.lease(1), 3);
    CHECKS.due("20: none yet", x.doing(1), NONE);
    x.deliver(0, NO_CUT);
    int[] left = {2, 1, NONE, NONE};
    for (int i = 0; i < 4; i++) {
      CHECKS.due("20: done, with jumps", x.doing(1), i);
      x.tick();
      CHECKS.due("19: left", x.lease(1), left[i]);
    }
    CHECKS.due("19: the other's", x.lease(2), 2);
    CHECKS.due("20: four", x.doing(1), 4);
    x.tick();
    CHECKS.due("20: over", x.doing(1), NONE);
    int[] wrong = {-1, 0, 3, 5, LOWEST, HIGHEST};
    for (int w : wrong) {
      CHECKS.due("19: worker " + w, x.lease(w), NONE);
      CHECKS.due("20: worker " + w, x.doing(w), NONE);
    }
    x = Play.queued(2, 3, 0L, 6, 1);
    x.crash(0);
    CHECKS.due("18: down", x.waiting(), 0);
  }

  // Promise 21

  private static void count() {
    LeasedBuilds x = Play.finished(2, 8, 6, 9);
    x.deliver(0, NO_CUT);
    x.action(0L, 0, 1);
    x.tick();
    x.deliver(1, NO_CUT);
    x.spoil(0);
    x.deliver(0, NO_CUT);
    int[] due = {2, 1, 1, 2, 1, 1, 0, 0, 4, 2};
    for (int which = 0; which < 10; which++) {
      CHECKS.due("21: count " + which, x.count(which), due[which]);
    }
    x.crash(0);
    x.crash(1);
    for (int which = 0; which < 10; which++) {
      CHECKS.due("21: in a crash, count " + which, x.count(which), due[which]);
    }
    int[] wrong = {-1, 10, LOWEST, HIGHEST};
    for (int which : wrong) {
      CHECKS.due("21: count " + which, x.count(which), NONE);
    }
  }
}
