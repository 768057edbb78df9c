/**
 * One test for each sentence of the document's Terms that names a boundary case, from what they say
 * of a delivery on: the kinds of messages, the cut and the tick.
 */
public final class MessageEdgesTest {
  private static final int NONE = LeasedBuilds.NONE;
  private static final int NO_CUT = Play.NO_CUT;

  private static final Checks CHECKS = new Checks();

  public static void main(String[] args) {
    leavesFirst();
    serverDown();
    workerDown();
    refusedPut();
    refusedLease();
    refusedLeaseKeepsTheJob();
    refusedLeaseOfTheSameInputs();
    refusedResult();
    refusedAnswer();
    neverRefused();
    askWithAResult();
    askWithAResultButNoInputs();
    askWithTwoResults();
    askThatLacks();
    askInTheQueue();
    askInALease();
    askAfterTheLease();
    lackOfAKnownAction();
    lackOfTheSame();
    lackThatIsOver();
    putOfAStoredBlob();
    leaseOverAJob();
    duplicateResult();
    resultOfAStoredOutput();
    resultInTheQueue();
    resultInALease();
    resultInTheLastLease();
    resultInNeither();
    answerForNone();
    answerForSeveral();
    answerForReadyOnesOnly();
    answerForOneThatBecomesReady();
    cutBeforeTheUpload();
    cutBeforeTheBlob();
    cutBeforeTheResult();
    timeGrows();
    workersThatAreDownOrIdle();
    leasesEnd();
    endedKeysGoBehind();
    emptyQueue();
    noWorkerWithoutALease();
    leasesToTheDown();
    lastWorkerThenFirst();
    onlyOneWorker();
    latestLeaseThatHasEnded();
    firstWorkerAfterARestart();
    lengthsOfLeases();
    fiveTicks();
    fiveTicksFromTheLatest();
    CHECKS.end();
  }

  // A delivery

  private static void leavesFirst() {
    CHECKS.by("A message that is DELIVERED leaves the flight first");
    LeasedBuilds x = Play.full();
    for (int i = 0; i < 24; i++) {
      CHECKS.due("an ASK in a full flight", x.deliver(0, NO_CUT), 1);
      CHECKS.due("its LACK has the place", x.message(23), 29);
      CHECKS.due("full again", x.flying(), 24);
    }
  }

  private static void serverDown() {
    CHECKS.by("If the receiver is down, that is all");
    LeasedBuilds x = Play.uploading(6, 9);
    x.spoil(1);
    x.crash(0);
    CHECKS.due("a PUT", x.deliver(0, 0), 0);
    CHECKS.due("a spoilt PUT", x.deliver(0, NO_CUT), 0);
    CHECKS.due("an ASK", x.deliver(0, NO_CUT), 0);
    CHECKS.due("they left the flight", x.flying(), 0);
    CHECKS.due("no blob", x.count(0), 0);
    CHECKS.due("no upload", x.count(3), 0);
    CHECKS.due("none refused", x.count(5), 0);
    CHECKS.due("no cut", x.count(7), 0);
    x = Play.finished(2, 8, 6, 9);
    x.crash(0);
    CHECKS.due("a RESULT", x.deliver(0, 0), 0);
    CHECKS.due("no result", x.count(1), 0);
    CHECKS.due("no ANSWER", x.flying(), 0);
  }

  private static void workerDown() {
    CHECKS.by("If the receiver is down, that is all");
    LeasedBuilds x = Play.queued(4, 40, 0L, 6, 9);
    x.tick();
    x.spoil(0);
    x.crash(1);
    CHECKS.due("a spoilt LEASE", x.deliver(0, NO_CUT), 0);
    CHECKS.due("not refused", x.count(5), 0);
    x.restart(1);
    CHECKS.due("no job", x.doing(1), NONE);
    CHECKS.due("the lease stays", x.lease(1), 40);
  }

  // Refused messages

  private static void refused(LeasedBuilds x, int kind) {
    x.spoil(0);
    CHECKS.due("a spoilt message", x.deliver(0, 0), kind);
    CHECKS.due("is refused", x.count(5), 1);
    CHECKS.due("nothing is sent", x.flying(), 0);
    CHECKS.due("no cut", x.count(7), 0);
  }

  private static void refusedPut() {
    CHECKS.by("when one of them has not the digest that goes with it");
    LeasedBuilds x = Play.uploading(6, 9);
    x.lose(2);
    x.lose(1);
    refused(x, 3);
    CHECKS.due("no blob", x.count(0), 0);
    CHECKS.due("no upload", x.count(3), 0);
    CHECKS.due("not under the right digest", x.stored(x.digest(6)), false);
    CHECKS.due("nor under the wrong one", x.stored(x.digest(7)), false);
  }

  private static void refusedLease() {
    CHECKS.by("in a LEASE, the two digests of the key");
    LeasedBuilds x = Play.queued(2, 8, 0L, 6, 9);
    x.tick();
    refused(x, 4);
    CHECKS.due("no job", x.doing(1), NONE);
    CHECKS.due("the lease stays", x.lease(1), 8);
    x = Play.queued(2, 8, 0L, 6, 7);
    x.tick();
    refused(x, 4);
    CHECKS.due("also when it is the other's content now", x.doing(1), NONE);
  }

  private static void refusedLeaseKeepsTheJob() {
    CHECKS.by("nothing else happens");
    LeasedBuilds x = Play.queued(1, 1, 0xBBBBL, 6, 9);
    x.tick();
    x.deliver(0, NO_CUT);
    x.tick();
    CHECKS.due("at work", x.doing(1), 1);
    refused(x, 4);
    CHECKS.due("the old job goes on", x.doing(1), 1);
  }

  private static void refusedLeaseOfTheSameInputs() {
    CHECKS.by("in a LEASE, the two digests of the key");
    LeasedBuilds x = new LeasedBuilds(2, 8);
    x.file(6);
    x.action(0L, 0, 0);
    x.tick();
    Play.settle(x);
    x.tick();
    refused(x, 4);
    CHECKS.due("no job", x.doing(1), NONE);
  }

  private static void refusedResult() {
    CHECKS.by("when one of them has not the digest that goes with it");
    LeasedBuilds x = Play.finished(2, 8, 6, 9);
    refused(x, 5);
    CHECKS.due("no result", x.count(1), 0);
    CHECKS.due("no blob more", x.count(0), 2);
    CHECKS.due("the lease stays", x.lease(1), 7);
    x = Play.queued(2, 1, 0L, 6, 9);
    x.tick();
    x.deliver(0, NO_CUT);
    x.tick();
    x.deliver(1, NO_CUT);
    x.tick();
    x.deliver(0, NO_CUT);
    x.spoil(0);
    x.deliver(0, NO_CUT);
    CHECKS.due("a spoilt second RESULT is refused", x.count(5), 1);
    CHECKS.due("and no duplicate", x.count(6), 0);
  }

  private static void refusedAnswer() {
    CHECKS.by("when one of them has not the digest that goes with it");
    LeasedBuilds x = Play.finished(2, 8, 6, 9);
    x.deliver(0, NO_CUT);
    refused(x, 6);
    CHECKS.due("not known", x.known(2), false);
    CHECKS.due("no content", x.content(2), 0);
  }

  private static void neverRefused() {
    CHECKS.by("Then, if it carries contents");
    LeasedBuilds x = new LeasedBuilds(2, 8);
    x.file(6);
    x.action(0L, 0, 0);
    x.tick();
    CHECKS.due("an ASK is not spoilt", x.spoil(0), false);
    CHECKS.due("an ASK", x.deliver(0, NO_CUT), 1);
    CHECKS.due("a LACK is not spoilt", x.spoil(0), false);
    CHECKS.due("a LACK", x.deliver(0, NO_CUT), 2);
    CHECKS.due("both did their work", Play.flight(x), "30 30 10");
    CHECKS.due("none was refused", x.count(5), 0);
  }

  // ASK

  private static void askWithAResult() {
    CHECKS.by("ASK: if there is a result for the key, an ANSWER with that digest and its content is sent (a HIT)");
    LeasedBuilds x = Play.finished(2, 8, 6, 9);
    x.deliver(0, NO_CUT);
    x.lose(0);
    Play.ticks(x, 3);
    CHECKS.due("the ASK again", Play.flight(x), "10");
    CHECKS.due("no hit yet", x.count(4), 0);
    x.deliver(0, NO_CUT);
    CHECKS.due("the ANSWER", Play.flight(x), "69");
    CHECKS.due("its content", x.carried(0), 6);
    CHECKS.due("a hit", x.count(4), 1);
    CHECKS.due("not in the queue", x.waiting(), 0);
  }

  private static void askWithAResultButNoInputs() {
    CHECKS.by("ASK: if there is a result for the key, an ANSWER with that digest and its content is sent (a HIT)");
    LeasedBuilds x = Play.queued(1, 40, 1L, 6, 9);
    x.tick();
    x.deliver(0, NO_CUT);
    Play.ticks(x, 2);
    x.deliver(0, NO_CUT);
    x.lose(0);
    CHECKS.due("both inputs are collected", x.collect(), 2);
    Play.ticks(x, 2);
    x.deliver(0, NO_CUT);
    CHECKS.due("no LACK but an ANSWER", Play.flight(x), "69");
    CHECKS.due("its content", x.carried(0), 15);
  }

  private static void askWithTwoResults() {
    CHECKS.by("ASK: if there is a result for the key, an ANSWER with that digest and its content is sent (a HIT)");
    LeasedBuilds x = new LeasedBuilds(2, 8);
    x.file(6);
    x.file(9);
    x.action(0L, 0, 1);
    x.action(0L, 1, 0);
    for (int i = 0; i < 3; i++) {
      x.tick();
      Play.settle(x);
    }
    CHECKS.due("two results", x.count(1), 2);
    x.action(0L, 1, 0);
    x.action(0L, 0, 1);
    x.tick();
    x.deliver(0, NO_CUT);
    x.deliver(0, NO_CUT);
    CHECKS.due("two ANSWERs", Play.flight(x), "69 69");
    CHECKS.due("the second result's content", x.carried(0), 9);
    CHECKS.due("the first result's content", x.carried(1), 6);
    CHECKS.due("two hits", x.count(4), 2);
  }

  private static void askThatLacks() {
    CHECKS.by("Otherwise, if the blob of a or of b is not on the disk, a LACK is sent that says which");
    for (int stored = 0; stored < 3; stored++) {
      LeasedBuilds x = Play.uploading(6, 9);
      if (stored != 1) {
        x.lose(0);
      } else {
        x.deliver(0, NO_CUT);
      }
      if (stored != 2) {
        x.lose(0);
      } else {
        x.deliver(0, NO_CUT);
      }
      x.deliver(0, NO_CUT);
      CHECKS.due("a LACK", Play.flight(x), "29");
      CHECKS.due("not in the queue", x.waiting(), 0);
      x.deliver(0, NO_CUT);
      CHECKS.due("PUTs", Play.flight(x), stored == 0 ? "30 30 10" : "30 10");
      CHECKS.due("the first lacking", x.carried(0), stored == 1 ? 9 : 6);
    }
  }

  private static void askInTheQueue() {
    CHECKS.by("if the key is neither in the queue nor in a lease, it goes to the end of the queue");
    LeasedBuilds x = Play.uploading(6, 9);
    x.action(0L, 0, 1);
    x.tick();
    CHECKS.due("another ASK of the same key", Play.flight(x), "30 30 10 10");
    Play.settle(x);
    CHECKS.due("the key waits once", x.waiting(), 1);
    CHECKS.due("nothing is sent", x.flying(), 0);
  }

  private static void askInALease() {
    CHECKS.by("if the key is neither in the queue nor in a lease, it goes to the end of the queue");
    LeasedBuilds x = Play.queued(2, 8, 0L, 6, 9);
    x.tick();
    x.lose(0);
    Play.ticks(x, 4);
    CHECKS.due("the ASK", Play.flight(x), "10");
    x.deliver(0, NO_CUT);
    CHECKS.due("not in the queue too", x.waiting(), 0);
    CHECKS.due("nothing is sent", x.flying(), 0);
    CHECKS.due("no other worker gets it", x.tick(), 0);
  }

  private static void askAfterTheLease() {
    CHECKS.by("if the key is neither in the queue nor in a lease, it goes to the end of the queue");
    LeasedBuilds x = Play.queued(2, 8, 0L, 6, 9);
    x.tick();
    x.lose(0);
    x.crash(0);
    x.restart(0);
    Play.ticks(x, 4);
    x.deliver(0, NO_CUT);
    CHECKS.due("in neither since the crash", x.waiting(), 1);
  }

  // LACK

  private static void lackOfAKnownAction() {
    CHECKS.by("LACK: nothing if the client knows the action");
    LeasedBuilds x = new LeasedBuilds(1, 40);
    x.file(6);
    x.action(0L, 0, 0);
    x.action(0L, 0, 0);
    x.tick();
    x.deliver(0, NO_CUT);
    CHECKS.due("an ASK and a LACK of the other", Play.flight(x), "10 29");
    x.deliver(0, NO_CUT);
    CHECKS.due("two LACKs", Play.flight(x), "29 29");
    x.deliver(1, NO_CUT);
    while (x.flying() > 1) {
      x.deliver(1, NO_CUT);
    }
    x.tick();
    x.deliver(1, NO_CUT);
    x.tick();
    x.deliver(1, NO_CUT);
    x.deliver(1, NO_CUT);
    CHECKS.due("known by the other's ANSWER", x.known(1), true);
    CHECKS.due("the LACK", x.deliver(0, NO_CUT), 2);
    CHECKS.due("sends nothing", x.flying(), 0);
  }

  private static void lackOfTheSame() {
    CHECKS.by("then a PUT of the content of b if that was lacking (also when the two are the same)");
    LeasedBuilds x = new LeasedBuilds(1, 8);
    x.file(6);
    x.action(0L, 0, 0);
    x.tick();
    x.deliver(0, NO_CUT);
    x.deliver(0, NO_CUT);
    CHECKS.due("the same item", Play.flight(x), "30 30 10");
    CHECKS.due("a", x.carried(0), 6);
    CHECKS.due("b", x.carried(1), 6);
    x = Play.uploading(6, 6);
    CHECKS.due("the same content", Play.flight(x), "30 30 10");
  }

  private static void lackThatIsOver() {
    CHECKS.by("it sends a PUT of the content of a if that was lacking");
    LeasedBuilds x = new LeasedBuilds(1, 8);
    x.file(6);
    x.file(9);
    x.action(0L, 0, 1);
    x.action(1L, 0, 1);
    x.tick();
    x.deliver(0, NO_CUT);
    x.deliver(0, NO_CUT);
    x.deliver(0, NO_CUT);
    for (int i = 0; i < 3; i++) {
      x.deliver(1, NO_CUT);
    }
    CHECKS.due("both blobs are there now", x.count(0), 2);
    x.deliver(0, NO_CUT);
    CHECKS.due("what was lacking is sent still", Play.flight(x), "30 30 10");
  }

  // PUT, LEASE

  private static void putOfAStoredBlob() {
    CHECKS.by("PUT: if no blob has the digest, the blob is written (an UPLOAD)");
    LeasedBuilds x = Play.uploading(6, 6);
    x.deliver(0, NO_CUT);
    CHECKS.due("an upload", x.count(3), 1);
    CHECKS.due("the second PUT", x.deliver(0, 0), 3);
    CHECKS.due("no upload", x.count(3), 1);
    CHECKS.due("no blob more", x.count(0), 1);
    CHECKS.due("no write to cut", x.count(7), 0);
    x.collect();
    CHECKS.due("collected", x.count(0), 0);
    x.deliver(0, NO_CUT);
    Play.settle(x);
    CHECKS.due("an upload of it again", x.count(3), 2);
  }

  private static void leaseOverAJob() {
    CHECKS.by("a job that it had is given up");
    LeasedBuilds x = Play.queued(1, 2, 0xBBBL, 6, 9);
    x.action(0x1L, 0, 1);
    x.tick();
    Play.settle(x);
    x.tick();
    x.tick();
    CHECKS.due("two of the old job", x.doing(1), 2);
    CHECKS.due("the other key's LEASE", Play.flight(x), "41");
    x.deliver(0, NO_CUT);
    CHECKS.due("none of the new job", x.doing(1), 0);
    Play.ticks(x, 2);
    int result = Play.find(x, 50);
    CHECKS.due("the new job's RESULT", x.carried(result), 15);
    Play.loseAll(x);
    Play.ticks(x, 6);
    CHECKS.due("none of the old job", Play.find(x, 50), NONE);
  }

  // RESULT

  private static void duplicateResult() {
    CHECKS.by("RESULT: if there is a result for the key, it is a DUPLICATE and nothing else happens");
    LeasedBuilds x = Play.queued(2, 1, 0L, 6, 9);
    x.tick();
    x.deliver(0, NO_CUT);
    x.tick();
    x.deliver(1, NO_CUT);
    x.tick();
    Play.settle(x);
    CHECKS.due("a duplicate", x.count(6), 1);
    x.tick();
    CHECKS.due("a third RESULT", Play.flight(x), "50");
    CHECKS.due("another", x.deliver(0, 0), 5);
    CHECKS.due("two duplicates", x.count(6), 2);
    CHECKS.due("one result", x.count(1), 1);
    CHECKS.due("no ANSWER", x.flying(), 0);
    CHECKS.due("no write to cut", x.count(7), 0);
  }

  private static void resultOfAStoredOutput() {
    CHECKS.by("Otherwise the blob is written, if none has the digest");
    LeasedBuilds x = Play.finished(2, 8, 6, 9);
    x.deliver(0, NO_CUT);
    CHECKS.due("the output is an input too", x.count(0), 2);
    x = Play.finished(2, 8, 6, 9);
    x.crash(0);
    x.restart(0);
    CHECKS.due("the inputs are collected", x.collect(), 2);
    x.deliver(0, NO_CUT);
    CHECKS.due("the output is new", x.count(0), 1);
    CHECKS.due("it is stored", x.stored(x.digest(6)), true);
    CHECKS.due("no upload", x.count(3), 2);
  }

  private static void resultInTheQueue() {
    CHECKS.by("then the key leaves the queue, if it is there");
    for (int before = 0; before <= 2; before++) {
      LeasedBuilds x = Play.finished(2, 8, 6, 9);
      x.crash(0);
      x.restart(0);
      Play.ticks(x, 2);
      x.action(0x10L, 1, 1);
      x.action(0x20L, 1, 0);
      x.tick();
      CHECKS.due("three ASKs", Play.flight(x), "50 10 10 10");
      for (int i = 0; i < before; i++) {
        x.deliver(2, NO_CUT);
      }
      while (x.flying() > 1) {
        x.deliver(1, NO_CUT);
      }
      CHECKS.due("three wait", x.waiting(), 3);
      x.deliver(0, NO_CUT);
      CHECKS.due("two wait", x.waiting(), 2);
      x.tick();
      CHECKS.due("both are leased", Play.flight(x), "69 41 42");
      CHECKS.due("a of the first", x.carried(1), 9);
      CHECKS.due("a of the second", x.carried(2), 9);
    }
  }

  private static void resultInALease() {
    CHECKS.by("a lease with that key ends, if there is one");
    LeasedBuilds x = Play.queued(2, 2, 0xBL, 6, 9);
    x.action(0x10L, 0, 1);
    x.tick();
    Play.settle(x);
    x.tick();
    CHECKS.due("two leases", Play.flight(x), "42");
    x.tick();
    CHECKS.due("the first has gone round", Play.flight(x), "42 50 41");
    x.deliver(1, NO_CUT);
    CHECKS.due("it ends", x.lease(1), NONE);
    CHECKS.due("the other's stays", x.lease(2), 1);
    CHECKS.due("its key does not wait", x.waiting(), 0);
  }

  private static void resultInTheLastLease() {
    CHECKS.by("a lease with that key ends, if there is one");
    LeasedBuilds x = Play.nineQueued(4, 8);
    x.tick();
    x.deliver(3, NO_CUT);
    Play.ticks(x, 2);
    x.deliver(Play.find(x, 50), NO_CUT);
    CHECKS.due("worker 4's ends", x.lease(4), NONE);
    for (int w = 1; w <= 3; w++) {
      CHECKS.due("that of worker " + w + " stays", x.lease(w), 6);
    }
  }

  private static void resultInNeither() {
    CHECKS.by("then the key leaves the queue, if it is there, a lease with that key ends, if there is one,"
        + " and an ANSWER with the key, the digest and the content is sent");
    LeasedBuilds x = Play.finished(2, 8, 6, 9);
    x.crash(0);
    x.restart(0);
    CHECKS.due("neither queue nor lease", x.waiting(), 0);
    x.deliver(0, NO_CUT);
    CHECKS.due("an ANSWER all the same", Play.flight(x), "69");
    CHECKS.due("and a result", x.count(1), 1);
    x.deliver(0, NO_CUT);
    CHECKS.due("the content", x.content(2), 6);
  }

  // ANSWER

  private static void answerForNone() {
    CHECKS.by("ANSWER: every ready action with that key becomes known");
    LeasedBuilds x = Play.queued(2, 8, 0L, 6, 9);
    x.tick();
    x.deliver(0, NO_CUT);
    x.tick();
    x.deliver(0, NO_CUT);
    Play.ticks(x, 3);
    x.deliver(1, NO_CUT);
    CHECKS.due("two ANSWERs", Play.flight(x), "69 69");
    x.deliver(0, NO_CUT);
    CHECKS.due("none is ready any more", x.deliver(0, NO_CUT), 6);
    CHECKS.due("the content stays", x.content(2), 6);
    CHECKS.due("none unknown", x.count(9), 0);
  }

  private static void answerForSeveral() {
    CHECKS.by("ANSWER: every ready action with that key becomes known");
    LeasedBuilds x = new LeasedBuilds(1, 40);
    x.file(6);
    x.file(6);
    for (int i = 2; i < 10; i++) {
      x.action(0L, i % 2, 0);
    }
    x.tick();
    while (x.flying() > 1) {
      x.lose(1);
    }
    Play.settle(x);
    for (int i = 0; i < 2; i++) {
      x.tick();
      Play.settle(x);
    }
    CHECKS.due("all eight are known", x.count(9), 0);
    CHECKS.due("with the content", x.content(9), 6);
    CHECKS.due("of one lease", x.count(2), 1);
  }

  /** What is not known may not count as a content of 0, nor a file as an action. */
  private static void answerForReadyOnesOnly() {
    CHECKS.by("ANSWER: every ready action with that key becomes known");
    LeasedBuilds x = new LeasedBuilds(1, 40);
    x.file(0);
    x.file(9);
    x.action(0xBL, 0, 0);
    x.action(0L, 2, 2);
    x.action(0L, 0, 2);
    x.action(0L, 0, 0);
    x.tick();
    x.lose(0);
    Play.settle(x);
    for (int i = 0; i < 2; i++) {
      x.tick();
      Play.settle(x);
    }
    CHECKS.due("the action", x.known(5), true);
    CHECKS.due("another program", x.known(2), false);
    CHECKS.due("one whose inputs are not known", x.known(3), false);
    CHECKS.due("one whose b is not known", x.known(4), false);
    CHECKS.due("a file", x.content(1), 9);
  }

  private static void answerForOneThatBecomesReady() {
    CHECKS.by("also one that becomes ready by that, if its key is the same");
    LeasedBuilds x = new LeasedBuilds(1, 40);
    x.file(6);
    x.action(0L, 0, 0);
    for (int i = 2; i < 9; i++) {
      x.action(0L, i - 1, i - 2);
    }
    x.action(0xBL, 8, 8);
    x.tick();
    Play.settle(x);
    for (int i = 0; i < 2; i++) {
      x.tick();
      Play.settle(x);
    }
    CHECKS.due("a chain of eight is known", x.known(8), true);
    CHECKS.due("with the content", x.content(8), 6);
    CHECKS.due("not one that became ready with another key", x.known(9), false);
  }

  // A cut

  private static void cutBeforeTheUpload() {
    CHECKS.by("A CUT: the server may be made to crash within a delivery, right before it would make one of the writes");
    LeasedBuilds x = Play.uploading(6, 9);
    x.deliver(0, NO_CUT);
    CHECKS.due("PUT", x.deliver(0, 0), 3);
    CHECKS.due("what it wrote before stays", x.count(0), 1);
    CHECKS.due("no upload more", x.count(3), 1);
    CHECKS.due("crashed by a cut", x.count(7), 1);
    CHECKS.due("down", x.deliver(0, NO_CUT), 0);
  }

  private static void cutBeforeTheBlob() {
    CHECKS.by("what it wrote before stays, and nothing that comes after happens");
    LeasedBuilds x = finishedWithANewOutput();
    x.deliver(0, 0);
    CHECKS.due("no blob more", x.count(0), 2);
    afterACut(x);
  }

  private static void cutBeforeTheResult() {
    CHECKS.by("what it wrote before stays, and nothing that comes after happens");
    LeasedBuilds x = finishedWithANewOutput();
    x.deliver(0, 1);
    CHECKS.due("the blob stays", x.stored(x.digest(15)), true);
    afterACut(x);
  }

  private static LeasedBuilds finishedWithANewOutput() {
    LeasedBuilds x = Play.queued(2, 40, 1L, 6, 9);
    x.tick();
    x.deliver(0, NO_CUT);
    Play.ticks(x, 2);
    return x;
  }

  private static void afterACut(LeasedBuilds x) {
    CHECKS.due("no result", x.count(1), 0);
    CHECKS.due("no ANSWER", x.flying(), 0);
    CHECKS.due("crashed by a cut", x.count(7), 1);
    CHECKS.due("no lease any more", x.lease(1), NONE);
    CHECKS.due("down", x.collect(), NONE);
    CHECKS.due("up again", x.restart(0), true);
    CHECKS.due("nothing waits", x.waiting(), 0);
    Play.ticks(x, 2);
    x.deliver(0, NO_CUT);
    CHECKS.due("no hit", x.count(4), 0);
    CHECKS.due("to be built again", x.waiting(), 1);
    x.tick();
    CHECKS.due("from worker 1 on", Play.flight(x), "41");
  }

  // A tick

  private static void timeGrows() {
    CHECKS.by("the time (at first 0) grows by 1");
    LeasedBuilds x = new LeasedBuilds(2, 8);
    CHECKS.due("at first", x.count(8), 0);
    x.tick();
    CHECKS.due("after a tick", x.count(8), 1);
    x.crash(0);
    x.crash(1);
    x.crash(2);
    x.tick();
    CHECKS.due("while all are down", x.count(8), 2);
  }

  private static void workersThatAreDownOrIdle() {
    CHECKS.by("Each worker, by its number, that is up and has a job does one instruction of it");
    LeasedBuilds x = Play.queued(2, 40, 0xBBBL, 6, 9);
    x.tick();
    x.deliver(0, NO_CUT);
    CHECKS.due("one works, one is idle", x.tick(), 0);
    CHECKS.due("one instruction", x.doing(1), 1);
    CHECKS.due("no job", x.doing(2), NONE);
    x.crash(1);
    x.tick();
    x.restart(1);
    Play.ticks(x, 4);
    CHECKS.due("nothing goes on while down, nor after", Play.find(x, 50), NONE);
    CHECKS.due("its job is lost", x.doing(1), NONE);
  }

  private static void leasesEnd() {
    CHECKS.by("every lease (by the worker's number) whose end is not after the time ends");
    LeasedBuilds x = Play.queued(2, 3, 0L, 6, 9);
    x.tick();
    x.lose(0);
    CHECKS.due("a tick before the end", Play.ticks(x, 2), 0);
    CHECKS.due("the lease stands", x.lease(1), 1);
    CHECKS.due("at the end", x.tick(), 1);
    CHECKS.due("it has ended", x.lease(1), NONE);
    CHECKS.due("the key is leased anew", x.lease(2), 3);
  }

  private static void endedKeysGoBehind() {
    CHECKS.by("and its key goes to the end of the queue");
    LeasedBuilds x = Play.nineQueued(4, 3);
    x.tick();
    Play.loseAll(x);
    Play.ticks(x, 2);
    CHECKS.due("five wait", x.waiting(), 5);
    CHECKS.due("four end, four are given", x.tick(), 4);
    CHECKS.due("five wait again", x.waiting(), 5);
    Play.ticks(x, 2);
    Play.loseAll(x);
    x.tick();
    CHECKS.due("the last that waited is leased, and three that had ended", Play.flight(x), "41 42 43 44");
    Play.settle(x);
    Play.ticks(x, 2);
    int[] outputs = {6, 6 + 6, 6 - 6, 6 ^ 6};
    for (int k = 0; k < 4; k++) {
      CHECKS.due("the output of program 9, 1, 2 or 3", x.carried(k), outputs[k]);
    }
  }

  private static void emptyQueue() {
    CHECKS.by("as long as the queue is not empty and some worker has no lease");
    LeasedBuilds x = new LeasedBuilds(4, 8);
    CHECKS.due("an empty queue", x.tick(), 0);
    CHECKS.due("no lease", x.count(2), 0);
    x = Play.queued(4, 8, 0L, 6, 9);
    CHECKS.due("one key and four workers", x.tick(), 1);
    CHECKS.due("one lease", x.count(2), 1);
    CHECKS.due("the queue is empty", x.waiting(), 0);
    CHECKS.due("none more", x.tick(), 0);
  }

  private static void noWorkerWithoutALease() {
    CHECKS.by("as long as the queue is not empty and some worker has no lease");
    LeasedBuilds x = Play.nineQueued(4, 8);
    CHECKS.due("nine keys and four workers", x.tick(), 4);
    CHECKS.due("all workers", Play.flight(x), "41 42 43 44");
    CHECKS.due("five wait", x.waiting(), 5);
    CHECKS.due("none has no lease", x.tick(), 0);
    CHECKS.due("five wait still", x.waiting(), 5);
  }

  private static void leasesToTheDown() {
    CHECKS.by("some worker has no lease (up or down: the server does not know)");
    LeasedBuilds x = Play.nineQueued(3, 8);
    for (int w = 1; w <= 3; w++) {
      x.crash(w);
    }
    CHECKS.due("three down", x.tick(), 3);
    CHECKS.due("each has a LEASE", Play.flight(x), "41 42 43");
    CHECKS.due("and a lease", x.lease(3), 8);
  }

  private static void lastWorkerThenFirst() {
    CHECKS.by("the next worker without a lease, counted on from the one behind the worker that got the latest"
        + " lease and round");
    for (int workers = 1; workers <= 4; workers++) {
      LeasedBuilds x = Play.queued(workers, 1, 0L, 6, 9);
      for (int i = 0; i < 9; i++) {
        int w = i % workers + 1;
        x.tick();
        CHECKS.due("lease " + i + " of " + workers + " workers", x.lease(w), 1);
        CHECKS.due("its LEASE", Play.find(x, 40 + w) != NONE, true);
        Play.loseAll(x);
      }
    }
  }

  private static void onlyOneWorker() {
    CHECKS.by("counted on from the one behind the worker that got the latest lease and round");
    LeasedBuilds x = Play.nineQueued(1, 1);
    for (int i = 0; i < 20; i++) {
      x.tick();
      CHECKS.due("the only worker again", x.lease(1), 1);
      CHECKS.due("the others wait", x.waiting(), 8);
    }
    CHECKS.due("leases", x.count(2), 20);
  }

  private static void latestLeaseThatHasEnded() {
    CHECKS.by("counted on from the one behind the worker that got the latest lease and round");
    LeasedBuilds x = Play.finished(3, 8, 6, 9);
    x.deliver(0, NO_CUT);
    x.deliver(0, NO_CUT);
    CHECKS.due("no lease now", x.lease(1), NONE);
    x.action(1L, 0, 1);
    x.tick();
    Play.settle(x);
    x.tick();
    CHECKS.due("on from worker 1, though its lease has ended", Play.flight(x), "42");
  }

  private static void firstWorkerAfterARestart() {
    CHECKS.by("from worker 1, if there was no lease since the server came up");
    LeasedBuilds x = Play.queued(3, 1, 0L, 6, 9);
    Play.ticks(x, 2);
    Play.loseAll(x);
    CHECKS.due("worker 2 has the latest", x.lease(2), 1);
    x.crash(0);
    x.restart(0);
    Play.ticks(x, 3);
    x.deliver(0, NO_CUT);
    x.tick();
    CHECKS.due("worker 1", Play.flight(x), "41");
  }

  private static void lengthsOfLeases() {
    CHECKS.by("the lease ends at the time plus the lease's length");
    int[] lengths = {1, 2, 39, 40};
    for (int length : lengths) {
      LeasedBuilds x = Play.queued(1, length, 0L, 6, 9);
      x.tick();
      CHECKS.due("length " + length, x.lease(1), length);
      Play.ticks(x, length - 1);
      CHECKS.due("the last tick of " + length, x.lease(1), 1);
      CHECKS.due("one lease", x.count(2), 1);
      x.tick();
      CHECKS.due("the next of " + length, x.lease(1), length);
      CHECKS.due("two leases", x.count(2), 2);
    }
  }

  private static void fiveTicks() {
    CHECKS.by("for each ready action for which it never sent one, or sent the latest one 5 or more ticks ago");
    LeasedBuilds x = new LeasedBuilds(2, 8);
    x.file(6);
    CHECKS.due("no action", Play.ticks(x, 3), 0);
    x.action(0L, 0, 0);
    for (int round = 0; round < 3; round++) {
      CHECKS.due("an ASK", x.tick(), 1);
      x.lose(0);
      CHECKS.due("none for 4 ticks", Play.ticks(x, 4), 0);
    }
  }

  private static void fiveTicksFromTheLatest() {
    CHECKS.by("for each ready action for which it never sent one, or sent the latest one 5 or more ticks ago");
    LeasedBuilds x = new LeasedBuilds(2, 8);
    x.file(6);
    x.action(0L, 0, 0);
    x.action(1L, 0, 0);
    Play.ticks(x, 5);
    x.deliver(0, NO_CUT);
    x.deliver(1, NO_CUT);
    CHECKS.due("the LACK's ASK is sent at time 5", Play.flight(x), "10 30 30 10");
    CHECKS.due("only the other's at time 6", x.tick(), 1);
    CHECKS.due("none until 9", Play.ticks(x, 3), 0);
    CHECKS.due("the first's at 10", x.tick(), 1);
    CHECKS.due("the other's at 11", x.tick(), 1);
  }
}
