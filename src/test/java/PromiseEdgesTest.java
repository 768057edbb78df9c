/** One test for each sentence of promises 1 to 21 that names a boundary case. */
public final class PromiseEdgesTest {
  private static final int NONE = LeasedBuilds.NONE;
  private static final int NO_CUT = Play.NO_CUT;
  private static final int LOWEST = Integer.MIN_VALUE;
  private static final int HIGHEST = Integer.MAX_VALUE;

  private static final Checks CHECKS = new Checks();

  public static void main(String[] args) {
    emptyFarm();
    workersOutOfRange();
    leaseOutOfRange();
    tenItemsAndAFile();
    tenItemsAndAnAction();
    inputsThatAreNotThere();
    ticksOfAFullFlight();
    ticksWithoutMessages();
    cutsAtEachWrite();
    negativeCuts();
    cutsBehindTheLastWrite();
    cutsWithoutWrites();
    kindsOfRefusedAndCut();
    deliveriesToTheDown();
    deliverNone();
    loseNone();
    spoilTwice();
    spoilAtTheEdges();
    spoilNone();
    spoilWithoutContents();
    crashOfAServer();
    crashNone();
    crashTwice();
    restartNone();
    restartOfTheUp();
    restartWithAnEmptyMemory();
    collectNothing();
    collectAll();
    collectTheRest();
    collectWhileDown();
    flyingFromEmptyToFull();
    messageNone();
    carriedNone();
    carriedZero();
    knownNone();
    contentNone();
    digestsAtTheEdges();
    storedWhileDown();
    storedOfAnEmptyDisk();
    waitingWhileDown();
    leaseNone();
    leaseAtItsEnds();
    doingNone();
    doingAtItsEnds();
    countsInACrash();
    countNone();
    CHECKS.end();
  }

  // Promise 1

  private static void emptyFarm() {
    CHECKS.by("1: A farm with no items, at time 0");
    LeasedBuilds x = new LeasedBuilds(2, 8);
    CHECKS.due("the time", x.count(8), 0);
    CHECKS.due("no item 0", x.known(0), false);
    CHECKS.due("no content of it", x.content(0), 0);
    CHECKS.due("no unknown action", x.count(9), 0);
    CHECKS.due("nothing to send", x.tick(), 0);
    CHECKS.due("the first item", x.file(6), 0);
  }

  private static void workersOutOfRange() {
    CHECKS.by("1: when workers is not 1 .. 4, there are 2");
    int[] asked = {LOWEST, -2, -1, 0, 1, 2, 3, 4, 5, 6, HIGHEST};
    int[] due = {2, 2, 2, 2, 1, 2, 3, 4, 2, 2, 2};
    for (int i = 0; i < asked.length; i++) {
      LeasedBuilds x = new LeasedBuilds(asked[i], 8);
      for (int w = 1; w <= 6; w++) {
        CHECKS.due("worker " + w + " of " + asked[i], x.crash(w), w <= due[i]);
      }
    }
  }

  private static void leaseOutOfRange() {
    CHECKS.by("1: when lease is not 1 .. 40, it is 8");
    int[] asked = {LOWEST, -1, 0, 1, 2, 8, 39, 40, 41, 42, HIGHEST};
    int[] due = {8, 8, 8, 1, 2, 8, 39, 40, 8, 8, 8};
    for (int i = 0; i < asked.length; i++) {
      LeasedBuilds x = Play.queued(0, asked[i], 0L, 6, 9);
      x.tick();
      CHECKS.due("a lease of " + asked[i], x.lease(1), due[i]);
    }
  }

  // Promises 2 and 3

  private static LeasedBuilds tenItems() {
    LeasedBuilds x = new LeasedBuilds(2, 8);
    for (int i = 0; i < 9; i++) {
      x.file(i);
    }
    x.action(0L, 7, 8);
    return x;
  }

  private static void tenItemsAndAFile() {
    CHECKS.by("2: NONE, changing nothing, when ten items are there");
    LeasedBuilds x = tenItems();
    String before = Play.state(x);
    for (int i = 0; i < 3; i++) {
      CHECKS.due("one more", x.file(77), NONE);
    }
    CHECKS.due("nothing changed", Play.state(x), before);
    CHECKS.due("no item 10", x.known(10), false);
    CHECKS.due("its action only is asked for", x.tick(), 1);
  }

  private static void tenItemsAndAnAction() {
    CHECKS.by("3: NONE, changing nothing, when ten items are there");
    LeasedBuilds x = tenItems();
    String before = Play.state(x);
    for (int i = 0; i < 3; i++) {
      CHECKS.due("one more", x.action(5L, 0, 1), NONE);
    }
    CHECKS.due("nothing changed", Play.state(x), before);
    CHECKS.due("one unknown action", x.count(9), 1);
    CHECKS.due("its action only is asked for", x.tick(), 1);
  }

  private static void inputsThatAreNotThere() {
    CHECKS.by("3: NONE, changing nothing, when a or b is not the number of an item that is there");
    LeasedBuilds x = new LeasedBuilds(2, 8);
    CHECKS.due("no items", x.action(0L, 0, 0), NONE);
    CHECKS.due("no items, NONE", x.action(0L, NONE, NONE), NONE);
    x.file(6);
    x.file(9);
    String before = Play.state(x);
    int[] wrong = {LOWEST, -2, -1, 2, 3, 9, 10, 11, HIGHEST};
    for (int input : wrong) {
      CHECKS.due("a is " + input, x.action(0L, input, 1), NONE);
      CHECKS.due("b is " + input, x.action(0L, 1, input), NONE);
      CHECKS.due("both are " + input, x.action(0L, input, input), NONE);
    }
    CHECKS.due("nothing changed", Play.state(x), before);
    CHECKS.due("nothing to ask for", x.tick(), 0);
    CHECKS.due("the next number", x.action(0L, 0, 1), 2);
    CHECKS.due("the one after it", x.file(1), 3);
  }

  // Promise 4

  private static void ticksOfAFullFlight() {
    CHECKS.by("4: Answers how many messages were sent in it, those that were lost at once included");
    LeasedBuilds x = Play.full();
    CHECKS.due("full", x.flying(), 24);
    CHECKS.due("none until 15", Play.ticks(x, 4), 0);
    CHECKS.due("eight, all lost at once", x.tick(), 8);
    CHECKS.due("still full", x.flying(), 24);
    for (int i = 0; i < 3; i++) {
      x.lose(0);
    }
    Play.ticks(x, 4);
    CHECKS.due("eight, five of them lost at once", x.tick(), 8);
    CHECKS.due("full again", x.flying(), 24);
  }

  private static void ticksWithoutMessages() {
    CHECKS.by("4: Answers how many messages were sent in it");
    LeasedBuilds x = new LeasedBuilds(2, 8);
    CHECKS.due("no items", x.tick(), 0);
    x.file(6);
    CHECKS.due("no action", x.tick(), 0);
    x.action(0L, 0, 0);
    CHECKS.due("an ASK", x.tick(), 1);
    CHECKS.due("it flies, but none was sent", x.tick(), 0);
    x.deliver(0, NO_CUT);
    x.deliver(0, NO_CUT);
    CHECKS.due("what deliveries sent does not count", x.tick(), 0);
  }

  // Promise 5

  /** A RESULT alone in flight whose delivery makes two writes. */
  private static LeasedBuilds twoWrites() {
    LeasedBuilds x = Play.queued(2, 40, 1L, 6, 9);
    x.tick();
    x.deliver(0, NO_CUT);
    Play.ticks(x, 2);
    return x;
  }

  private static void cutsAtEachWrite() {
    CHECKS.by("5: with a CUT right before the write number cut + 1 that the server would make in this delivery"
        + " (the first write is number 1)");
    LeasedBuilds x = twoWrites();
    x.deliver(0, 0);
    CHECKS.due("before write 1", x.count(0) + 10 * x.count(1), 2);
    CHECKS.due("a cut", x.count(7), 1);
    x = twoWrites();
    x.deliver(0, 1);
    CHECKS.due("before write 2", x.count(0) + 10 * x.count(1), 3);
    CHECKS.due("a cut", x.count(7), 1);
    x = Play.finished(2, 8, 6, 9);
    x.deliver(0, 0);
    CHECKS.due("the result is write 1 when the blob is there", x.count(1), 0);
    CHECKS.due("a cut", x.count(7), 1);
    x = Play.uploading(6, 9);
    x.deliver(0, 0);
    CHECKS.due("a PUT before write 1", x.count(0), 0);
    CHECKS.due("a cut", x.count(7), 1);
  }

  private static void negativeCuts() {
    CHECKS.by("5: there is no cut when cut is negative");
    int[] cuts = {-1, -2, -3, LOWEST};
    for (int cut : cuts) {
      LeasedBuilds x = twoWrites();
      CHECKS.due("a RESULT, cut " + cut, x.deliver(0, cut), 5);
      CHECKS.due("it is written", x.count(1), 1);
      CHECKS.due("no cut", x.count(7), 0);
      x = Play.uploading(6, 9);
      CHECKS.due("a PUT, cut " + cut, x.deliver(0, cut), 3);
      CHECKS.due("it is written", x.count(0), 1);
      CHECKS.due("no cut", x.count(7), 0);
    }
  }

  private static void cutsBehindTheLastWrite() {
    CHECKS.by("5: there is no cut when the server makes at most cut writes");
    int[] cuts = {2, 3, HIGHEST};
    for (int cut : cuts) {
      LeasedBuilds x = twoWrites();
      x.deliver(0, cut);
      CHECKS.due("two writes, cut " + cut, x.count(1), 1);
      CHECKS.due("the ANSWER", Play.flight(x), "69");
      CHECKS.due("no cut", x.count(7), 0);
    }
    LeasedBuilds x = Play.finished(2, 8, 6, 9);
    x.deliver(0, 1);
    CHECKS.due("one write, cut 1", x.count(1), 1);
    CHECKS.due("no cut", x.count(7), 0);
    x = Play.uploading(6, 9);
    x.deliver(0, 1);
    CHECKS.due("an upload, cut 1", x.count(3), 1);
    CHECKS.due("no cut", x.count(7), 0);
  }

  private static void cutsWithoutWrites() {
    CHECKS.by("5: there is no cut when the server makes at most cut writes");
    LeasedBuilds x = new LeasedBuilds(1, 1);
    x.file(6);
    x.action(0L, 0, 0);
    x.tick();
    CHECKS.due("an ASK that lacks", x.deliver(0, 0), 1);
    CHECKS.due("a LACK", x.deliver(0, 0), 2);
    CHECKS.due("a PUT", x.deliver(0, NO_CUT), 3);
    CHECKS.due("a PUT of a stored blob", x.deliver(0, 0), 3);
    CHECKS.due("an ASK", x.deliver(0, 0), 1);
    x.tick();
    CHECKS.due("a LEASE", x.deliver(0, 0), 4);
    x.tick();
    CHECKS.due("RESULT and LEASE", Play.flight(x), "50 41");
    x.deliver(1, NO_CUT);
    x.tick();
    x.deliver(0, NO_CUT);
    CHECKS.due("a second RESULT", x.deliver(Play.find(x, 50), 0), 5);
    CHECKS.due("it is a duplicate", x.count(6), 1);
    CHECKS.due("an ANSWER", x.deliver(Play.find(x, 69), 0), 6);
    CHECKS.due("no cut in all this", x.count(7), 0);
    CHECKS.due("the server is up", x.restart(0), false);
  }

  private static void kindsOfRefusedAndCut() {
    CHECKS.by("5: Answers the kind of the message (also when it was refused or cut)");
    LeasedBuilds x = Play.uploading(6, 9);
    x.spoil(0);
    CHECKS.due("a refused PUT", x.deliver(0, NO_CUT), 3);
    CHECKS.due("a cut PUT", x.deliver(0, 0), 3);
    x = Play.queued(2, 8, 0L, 6, 9);
    x.tick();
    x.spoil(0);
    CHECKS.due("a refused LEASE", x.deliver(0, NO_CUT), 4);
    x = twoWrites();
    CHECKS.due("a RESULT cut at its first write", x.deliver(0, 0), 5);
    x = twoWrites();
    CHECKS.due("a RESULT cut at its second write", x.deliver(0, 1), 5);
    x = twoWrites();
    x.spoil(0);
    CHECKS.due("a refused RESULT", x.deliver(0, 0), 5);
    x = twoWrites();
    x.deliver(0, NO_CUT);
    x.spoil(0);
    CHECKS.due("a refused ANSWER", x.deliver(0, NO_CUT), 6);
  }

  private static void deliveriesToTheDown() {
    CHECKS.by("5: 0 when its receiver was down");
    LeasedBuilds x = Play.uploading(6, 9);
    x.crash(0);
    CHECKS.due("a PUT", x.deliver(1, 0), 0);
    CHECKS.due("an ASK", x.deliver(1, NO_CUT), 0);
    CHECKS.due("one is left", x.flying(), 1);
    x = Play.queued(4, 1, 0L, 6, 9);
    Play.ticks(x, 4);
    CHECKS.due("a LEASE to each", Play.flight(x), "41 42 43 44");
    x.crash(4);
    CHECKS.due("worker 4 is down", x.deliver(3, NO_CUT), 0);
    x.crash(1);
    CHECKS.due("worker 1 is down", x.deliver(0, NO_CUT), 0);
    CHECKS.due("worker 2 is up", x.deliver(0, NO_CUT), 4);
    CHECKS.due("none is left behind worker 3's", Play.flight(x), "43");
  }

  private static void deliverNone() {
    CHECKS.by("5: NONE, changing nothing, when there is no message k");
    LeasedBuilds empty = new LeasedBuilds(2, 8);
    CHECKS.due("an empty flight", empty.deliver(0, 0), NONE);
    LeasedBuilds x = Play.uploading(6, 9);
    String before = Play.state(x);
    int[] wrong = {LOWEST, -2, -1, 3, 4, 23, 24, 25, HIGHEST};
    for (int k : wrong) {
      CHECKS.due("message " + k + " of three", x.deliver(k, 0), NONE);
    }
    CHECKS.due("nothing changed", Play.state(x), before);
    x.crash(0);
    CHECKS.due("no message and the server down", x.deliver(3, 0), NONE);
    LeasedBuilds full = Play.full();
    CHECKS.due("message 24 of 24", full.deliver(24, NO_CUT), NONE);
    CHECKS.due("message 23 of 24", full.deliver(23, NO_CUT), 1);
  }

  // Promise 6

  private static void loseNone() {
    CHECKS.by("6: false, changing nothing, when there is none");
    LeasedBuilds empty = new LeasedBuilds(2, 8);
    CHECKS.due("an empty flight", empty.lose(0), false);
    LeasedBuilds x = Play.uploading(6, 9);
    String before = Play.state(x);
    int[] wrong = {LOWEST, -2, -1, 3, 4, 23, 24, 25, HIGHEST};
    for (int k : wrong) {
      CHECKS.due("message " + k + " of three", x.lose(k), false);
    }
    CHECKS.due("nothing changed", Play.state(x), before);
    LeasedBuilds full = Play.full();
    CHECKS.due("message 24 of 24", full.lose(24), false);
    CHECKS.due("message 23 of 24", full.lose(23), true);
    CHECKS.due("it left", full.flying(), 23);
  }

  // Promise 7

  private static void spoilTwice() {
    CHECKS.by("7: to turn it again restores it");
    LeasedBuilds x = Play.finished(2, 8, 6, 9);
    for (int i = 1; i <= 4; i++) {
      CHECKS.due("turn " + i, x.spoil(0), true);
      CHECKS.due("content after turn " + i, x.carried(0), i % 2 == 0 ? 6 : 7);
    }
    CHECKS.due("whole", x.deliver(0, NO_CUT), 5);
    CHECKS.due("not refused", x.count(5), 0);
    CHECKS.due("a result", x.count(1), 1);
  }

  private static void spoilAtTheEdges() {
    CHECKS.by("7: Turns the lowest bit of the first content that message k carries");
    int[] contents = {LOWEST, -2, -1, 0, 1, HIGHEST};
    int[] turned = {LOWEST + 1, -1, -2, 1, 0, HIGHEST - 1};
    for (int i = 0; i < contents.length; i++) {
      LeasedBuilds x = Play.uploading(contents[i], 9);
      x.spoil(0);
      CHECKS.due("content " + contents[i], x.carried(0), turned[i]);
      CHECKS.due("the other PUT", x.carried(1), 9);
      x.deliver(0, NO_CUT);
      CHECKS.due("refused", x.count(5), 1);
    }
    LeasedBuilds x = Play.queued(2, 8, 0L, 6, 9);
    x.tick();
    x.spoil(0);
    CHECKS.due("of a LEASE, that of a", x.carried(0), 7);
    x.spoil(0);
    x.deliver(0, NO_CUT);
    CHECKS.due("b was whole all the time", x.doing(1), 0);
  }

  private static void spoilNone() {
    CHECKS.by("7: false, changing nothing, when there is no message k");
    LeasedBuilds empty = new LeasedBuilds(2, 8);
    CHECKS.due("an empty flight", empty.spoil(0), false);
    LeasedBuilds x = Play.uploading(6, 9);
    x.lose(2);
    String before = Play.state(x);
    int[] wrong = {LOWEST, -2, -1, 2, 3, 23, 24, 25, HIGHEST};
    for (int k : wrong) {
      CHECKS.due("message " + k + " of two", x.spoil(k), false);
    }
    CHECKS.due("nothing changed", Play.state(x), before);
    x.lose(1);
    CHECKS.due("where a PUT was", x.spoil(1), false);
  }

  private static void spoilWithoutContents() {
    CHECKS.by("7: false, changing nothing, when it carries none");
    LeasedBuilds x = new LeasedBuilds(2, 8);
    x.file(6);
    x.action(0L, 0, 0);
    x.tick();
    CHECKS.due("an ASK", x.spoil(0), false);
    CHECKS.due("carries nothing still", x.carried(0), 0);
    x.deliver(0, NO_CUT);
    CHECKS.due("a LACK", x.spoil(0), false);
    CHECKS.due("carries nothing still", x.carried(0), 0);
    x.deliver(0, NO_CUT);
    x.deliver(0, NO_CUT);
    x.deliver(0, NO_CUT);
    CHECKS.due("an ASK where a PUT was", x.spoil(0), false);
  }

  // Promises 8 and 9

  private static void crashOfAServer() {
    CHECKS.by("8: the server loses its queue, its leases and which worker got the latest one, and keeps the disk");
    LeasedBuilds x = Play.nineQueued(2, 8);
    x.tick();
    CHECKS.due("seven wait", x.waiting(), 7);
    x.crash(0);
    CHECKS.due("no queue", x.waiting(), 0);
    CHECKS.due("no lease of 1", x.lease(1), NONE);
    CHECKS.due("no lease of 2", x.lease(2), NONE);
    CHECKS.due("the disk", x.stored(x.digest(6)), true);
    x.restart(0);
    CHECKS.due("nothing waits, nothing is leased", x.tick(), 0);
    x = Play.queued(3, 8, 0L, 6, 9);
    x.tick();
    x.lose(0);
    CHECKS.due("worker 1 has the latest", x.lease(1), 8);
    x.crash(0);
    x.restart(0);
    Play.ticks(x, 4);
    x.deliver(0, NO_CUT);
    x.tick();
    CHECKS.due("worker 1 is the next again", Play.flight(x), "41");
  }

  private static void crashNone() {
    CHECKS.by("8: False, changing nothing, when there is no such node");
    LeasedBuilds x = Play.nineQueued(3, 8);
    x.tick();
    x.deliver(0, NO_CUT);
    String before = Play.state(x);
    int[] wrong = {LOWEST, -2, -1, 4, 5, 9, 10, HIGHEST};
    for (int node : wrong) {
      CHECKS.due("node " + node, x.crash(node), false);
    }
    CHECKS.due("nothing changed", Play.state(x), before);
    CHECKS.due("the last node", x.crash(3), true);
  }

  private static void crashTwice() {
    CHECKS.by("8: False, changing nothing, when it is down");
    LeasedBuilds x = Play.nineQueued(3, 8);
    x.tick();
    for (int node = 0; node <= 3; node++) {
      CHECKS.due("node " + node, x.crash(node), true);
      String before = Play.state(x);
      CHECKS.due("node " + node + " again", x.crash(node), false);
      CHECKS.due("nothing changed", Play.state(x), before);
    }
    LeasedBuilds cut = Play.uploading(6, 9);
    cut.deliver(0, 0);
    CHECKS.due("down by a cut", cut.crash(0), false);
    CHECKS.due("one crash by a cut", cut.count(7), 1);
  }

  private static void restartNone() {
    CHECKS.by("9: False, changing nothing, when there is no such node");
    LeasedBuilds x = Play.nineQueued(3, 8);
    x.tick();
    x.crash(1);
    String before = Play.state(x);
    int[] wrong = {LOWEST, -2, -1, 4, 5, 9, 10, HIGHEST};
    for (int node : wrong) {
      CHECKS.due("node " + node, x.restart(node), false);
    }
    CHECKS.due("nothing changed", Play.state(x), before);
    CHECKS.due("the one that is down", x.restart(1), true);
  }

  private static void restartOfTheUp() {
    CHECKS.by("9: False, changing nothing, when it is up");
    LeasedBuilds x = Play.nineQueued(3, 8);
    x.tick();
    Play.settle(x);
    x.tick();
    String before = Play.state(x);
    for (int node = 0; node <= 3; node++) {
      CHECKS.due("node " + node, x.restart(node), false);
    }
    CHECKS.due("queue, leases and jobs are as they were", Play.state(x), before);
    x.crash(2);
    CHECKS.due("down", x.restart(2), true);
    CHECKS.due("up again", x.restart(2), false);
  }

  private static void restartWithAnEmptyMemory() {
    CHECKS.by("9: The node is up again, with an empty memory");
    LeasedBuilds x = Play.nineQueued(2, 8);
    x.tick();
    Play.settle(x);
    for (int node = 0; node <= 2; node++) {
      x.crash(node);
      CHECKS.due("restart", x.restart(node), true);
    }
    CHECKS.due("no queue", x.waiting(), 0);
    CHECKS.due("no lease", x.lease(1), NONE);
    CHECKS.due("no job of 1", x.doing(1), NONE);
    CHECKS.due("no job of 2", x.doing(2), NONE);
    CHECKS.due("blobs on the disk", x.count(0), 1);
    CHECKS.due("nobody works or leases", x.tick(), 0);
    LeasedBuilds cut = Play.uploading(6, 9);
    cut.deliver(0, 0);
    CHECKS.due("after a cut", cut.restart(0), true);
    CHECKS.due("it takes a PUT", cut.deliver(0, NO_CUT), 3);
    CHECKS.due("onto the disk", cut.count(0), 1);
  }

  // Promise 10

  private static void collectNothing() {
    CHECKS.by("10: Answers how many");
    LeasedBuilds x = new LeasedBuilds(2, 8);
    CHECKS.due("an empty disk", x.collect(), 0);
    x = Play.queued(2, 8, 0L, 6, 9);
    CHECKS.due("both in a queued key", x.collect(), 0);
    x.tick();
    CHECKS.due("both in a leased key", x.collect(), 0);
    CHECKS.due("two blobs", x.count(0), 2);
    x.deliver(0, NO_CUT);
    x.tick();
    x.deliver(0, NO_CUT);
    CHECKS.due("b goes, a is the output", x.collect(), 1);
    CHECKS.due("the output", x.stored(x.digest(6)), true);
    CHECKS.due("none is left to go", x.collect(), 0);
  }

  private static void collectAll() {
    CHECKS.by("10: The server takes from its disk every blob whose digest is neither the output's in a result nor"
        + " one of the two digests in a key that is in the queue or in a lease");
    LeasedBuilds x = new LeasedBuilds(1, 8);
    for (int i = 0; i < 8; i++) {
      x.file(i);
    }
    x.action(0L, 0, 1);
    x.action(0L, 2, 3);
    x.tick();
    Play.settle(x);
    x.crash(0);
    x.restart(0);
    CHECKS.due("all four", x.collect(), 4);
    CHECKS.due("an empty disk", x.count(0), 0);
    for (int i = 0; i < 4; i++) {
      CHECKS.due("content " + i, x.stored(x.digest(i)), false);
    }
    Play.ticks(x, 5);
    Play.settle(x);
    CHECKS.due("uploaded again", x.count(3), 8);
    CHECKS.due("both keys wait", x.waiting(), 2);
  }

  private static void collectTheRest() {
    CHECKS.by("10: nor one of the two digests in a key that is in the queue or in a lease");
    LeasedBuilds x = new LeasedBuilds(1, 40);
    for (int i = 0; i < 6; i++) {
      x.file(i);
    }
    for (int i = 0; i < 6; i += 2) {
      x.action(0L, i, i + 1);
    }
    x.tick();
    Play.settle(x);
    x.crash(0);
    x.restart(0);
    Play.ticks(x, 5);
    x.lose(1);
    Play.settle(x);
    CHECKS.due("six blobs, two keys wait", x.count(0) + 10 * x.waiting(), 26);
    CHECKS.due("those in no key", x.collect(), 2);
    CHECKS.due("a of none", x.stored(x.digest(2)), false);
    CHECKS.due("b of none", x.stored(x.digest(3)), false);
    x.tick();
    CHECKS.due("one is leased, one waits", x.waiting(), 1);
    CHECKS.due("none goes", x.collect(), 0);
    CHECKS.due("b of the leased key", x.stored(x.digest(1)), true);
    CHECKS.due("a of the waiting key", x.stored(x.digest(4)), true);
  }

  private static void collectWhileDown() {
    CHECKS.by("10: NONE, changing nothing, when the server is down");
    LeasedBuilds x = Play.queued(2, 8, 0L, 6, 9);
    x.crash(0);
    CHECKS.due("down", x.collect(), NONE);
    CHECKS.due("the blobs are there", x.count(0), 2);
    CHECKS.due("6", x.stored(x.digest(6)), true);
    CHECKS.due("9", x.stored(x.digest(9)), true);
    x.restart(0);
    CHECKS.due("up", x.collect(), 2);
    LeasedBuilds empty = new LeasedBuilds(2, 8);
    empty.crash(0);
    CHECKS.due("down with an empty disk", empty.collect(), NONE);
  }

  // Promises 11, 12 and 13

  private static void flyingFromEmptyToFull() {
    CHECKS.by("11: How many messages are in flight");
    LeasedBuilds x = new LeasedBuilds(2, 8);
    CHECKS.due("none", x.flying(), 0);
    x = Play.full();
    for (int left = 24; left > 0; left--) {
      CHECKS.due("so many", x.flying(), left);
      x.lose(left / 2);
    }
    CHECKS.due("none again", x.flying(), 0);
  }

  private static void messageNone() {
    CHECKS.by("12: NONE when there is none");
    LeasedBuilds empty = new LeasedBuilds(2, 8);
    CHECKS.due("an empty flight", empty.message(0), NONE);
    LeasedBuilds x = Play.uploading(6, 9);
    int[] wrong = {LOWEST, -2, -1, 3, 4, 23, 24, 25, HIGHEST};
    for (int k : wrong) {
      CHECKS.due("message " + k + " of three", x.message(k), NONE);
    }
    x.lose(0);
    CHECKS.due("where the last was", x.message(2), NONE);
    LeasedBuilds full = Play.full();
    CHECKS.due("message 23 of 24", full.message(23), 10);
    CHECKS.due("message 24 of 24", full.message(24), NONE);
  }

  private static void carriedNone() {
    CHECKS.by("13: 0 when there is no message k or it carries none");
    LeasedBuilds empty = new LeasedBuilds(2, 8);
    CHECKS.due("an empty flight", empty.carried(0), 0);
    LeasedBuilds x = Play.uploading(6, 9);
    int[] wrong = {LOWEST, -2, -1, 3, 4, 23, 24, 25, HIGHEST};
    for (int k : wrong) {
      CHECKS.due("message " + k + " of three", x.carried(k), 0);
    }
    CHECKS.due("an ASK", x.carried(2), 0);
    x.deliver(2, NO_CUT);
    CHECKS.due("a LACK", x.carried(2), 0);
    x.lose(2);
    x.lose(1);
    CHECKS.due("where a PUT was", x.carried(1), 0);
    x.deliver(0, NO_CUT);
    Play.ticks(x, 5);
    CHECKS.due("an ASK in a row where a PUT was", x.carried(0), 0);
  }

  private static void carriedZero() {
    CHECKS.by("13: The first content that message k carries, as it is now");
    LeasedBuilds x = Play.uploading(0, 9);
    CHECKS.due("a content of 0", x.carried(0), 0);
    CHECKS.due("is a content", x.spoil(0), true);
    CHECKS.due("spoilt", x.carried(0), 1);
    x.spoil(0);
    CHECKS.due("restored", x.carried(0), 0);
  }

  // Promises 14 and 15

  private static void knownNone() {
    CHECKS.by("14: false when there is no such item");
    LeasedBuilds x = new LeasedBuilds(2, 8);
    CHECKS.due("no items", x.known(0), false);
    x.file(6);
    x.file(9);
    int[] wrong = {LOWEST, -2, -1, 2, 3, 9, 10, 11, HIGHEST};
    for (int item : wrong) {
      CHECKS.due("item " + item + " of two", x.known(item), false);
    }
    CHECKS.due("the last", x.known(1), true);
    LeasedBuilds ten = tenItems();
    CHECKS.due("file 8 of ten", ten.known(8), true);
    CHECKS.due("item 10 of ten", ten.known(10), false);
  }

  private static void contentNone() {
    CHECKS.by("15: 0 when it does not know it or there is no such item");
    LeasedBuilds x = new LeasedBuilds(2, 8);
    CHECKS.due("no items", x.content(0), 0);
    x.file(6);
    x.file(9);
    x.action(0L, 0, 1);
    CHECKS.due("not known", x.content(2), 0);
    int[] wrong = {LOWEST, -2, -1, 3, 4, 9, 10, 11, HIGHEST};
    for (int item : wrong) {
      CHECKS.due("item " + item + " of three", x.content(item), 0);
    }
    CHECKS.due("the last file", x.content(1), 9);
    LeasedBuilds refused = Play.finished(2, 8, 6, 9);
    refused.deliver(0, NO_CUT);
    refused.spoil(0);
    refused.deliver(0, NO_CUT);
    CHECKS.due("not known after a refused ANSWER", refused.content(2), 0);
  }

  // Promises 16 and 17

  private static void digestsAtTheEdges() {
    CHECKS.by("16: The digest of a content");
    LeasedBuilds x = new LeasedBuilds(2, 8);
    int[] contents = {0, 1, -1, LOWEST, HIGHEST};
    int[] digests = {0, -1861094109, -1659663246, 185597952, -1845261198};
    for (int i = 0; i < contents.length; i++) {
      CHECKS.due("digest(" + contents[i] + ")", x.digest(contents[i]), digests[i]);
    }
    x.crash(0);
    CHECKS.due("while the server is down", x.digest(1), -1861094109);
  }

  private static void storedWhileDown() {
    CHECKS.by("17: Whether a blob with this digest is on the disk (also while the server is down)");
    LeasedBuilds x = Play.uploading(6, 9);
    x.deliver(0, NO_CUT);
    CHECKS.due("up", x.stored(x.digest(6)), true);
    x.deliver(0, 0);
    CHECKS.due("down by a cut", x.stored(x.digest(6)), true);
    CHECKS.due("not written", x.stored(x.digest(9)), false);
    x.restart(0);
    x.crash(0);
    CHECKS.due("down", x.stored(x.digest(6)), true);
  }

  private static void storedOfAnEmptyDisk() {
    CHECKS.by("17: Whether a blob with this digest is on the disk");
    LeasedBuilds x = new LeasedBuilds(2, 8);
    int[] digests = {LOWEST, -1, 0, 1, HIGHEST};
    for (int digest : digests) {
      CHECKS.due("an empty disk", x.stored(digest), false);
    }
    x = Play.uploading(0, 9);
    CHECKS.due("a digest of 0 before the PUT", x.stored(0), false);
    x.deliver(0, NO_CUT);
    CHECKS.due("a digest of 0", x.stored(0), true);
    CHECKS.due("collected", x.collect(), 1);
    CHECKS.due("a digest of 0 that was collected", x.stored(0), false);
  }

  // Promises 18, 19 and 20

  private static void waitingWhileDown() {
    CHECKS.by("18: How many keys are in the queue (0 while the server is down)");
    LeasedBuilds x = Play.nineQueued(2, 8);
    CHECKS.due("nine", x.waiting(), 9);
    x.crash(0);
    CHECKS.due("down", x.waiting(), 0);
    LeasedBuilds cut = Play.nineQueued(2, 8);
    cut.tick();
    CHECKS.due("seven", cut.waiting(), 7);
    Play.settle(cut);
    Play.ticks(cut, 2);
    cut.deliver(Play.find(cut, 50), 0);
    CHECKS.due("down by a cut", cut.count(7), 1);
    CHECKS.due("none waits", cut.waiting(), 0);
  }

  private static void leaseNone() {
    CHECKS.by("19: NONE when it has none or there is no worker w");
    LeasedBuilds x = Play.queued(3, 8, 0L, 6, 9);
    CHECKS.due("none yet", x.lease(1), NONE);
    x.tick();
    CHECKS.due("one", x.lease(1), 8);
    CHECKS.due("worker 2 has none", x.lease(2), NONE);
    int[] wrong = {LOWEST, -2, -1, 0, 4, 5, HIGHEST};
    for (int w : wrong) {
      CHECKS.due("worker " + w + " of three", x.lease(w), NONE);
    }
    x.crash(0);
    CHECKS.due("the server is down", x.lease(1), NONE);
  }

  private static void leaseAtItsEnds() {
    CHECKS.by("19: How many ticks from now the server's lease for worker w ends");
    LeasedBuilds x = Play.queued(2, 40, 0L, 6, 9);
    x.tick();
    x.crash(1);
    for (int left = 40; left > 0; left--) {
      CHECKS.due("so many left, though the worker is down", x.lease(1), left);
      x.tick();
    }
    CHECKS.due("it has ended", x.lease(1), NONE);
    CHECKS.due("the next worker's", x.lease(2), 40);
  }

  private static void doingNone() {
    CHECKS.by("20: NONE when it has no job or there is no worker w");
    LeasedBuilds x = Play.queued(3, 8, 0xBL, 6, 9);
    x.tick();
    CHECKS.due("leased, but the LEASE flies", x.doing(1), NONE);
    x.deliver(0, NO_CUT);
    CHECKS.due("a job", x.doing(1), 0);
    CHECKS.due("worker 2 has none", x.doing(2), NONE);
    int[] wrong = {LOWEST, -2, -1, 0, 4, 5, HIGHEST};
    for (int w : wrong) {
      CHECKS.due("worker " + w + " of three", x.doing(w), NONE);
    }
    x.crash(1);
    CHECKS.due("down", x.doing(1), NONE);
  }

  private static void doingAtItsEnds() {
    CHECKS.by("20: How many instructions of its job worker w has done");
    LeasedBuilds x = Play.queued(1, 40, -1L, 6, 9);
    x.tick();
    x.deliver(0, NO_CUT);
    for (int done = 0; done <= 16; done++) {
      CHECKS.due("so many", x.doing(1), done);
      x.tick();
    }
    CHECKS.due("over", x.doing(1), NONE);
    x = Play.queued(1, 40, 0x7L, 6, 3);
    x.tick();
    x.deliver(0, NO_CUT);
    Play.ticks(x, 4);
    CHECKS.due("instructions done, not the place in the program", x.doing(1), 4);
  }

  // Promise 21

  private static void countsInACrash() {
    CHECKS.by("21: A count, never lost in a crash");
    LeasedBuilds x = Play.queued(2, 1, 0L, 6, 9);
    x.tick();
    x.deliver(0, NO_CUT);
    x.tick();
    x.deliver(1, NO_CUT);
    x.tick();
    Play.settle(x);
    x.action(0L, 0, 1);
    x.action(0L, 1, 0);
    x.tick();
    x.deliver(1, NO_CUT);
    x.spoil(Play.find(x, 69));
    Play.settle(x);
    x.tick();
    x.deliver(Play.find(x, 42), NO_CUT);
    x.tick();
    x.deliver(Play.find(x, 50), 0);
    int[] due = {2, 1, 5, 2, 1, 1, 2, 1, 7, 2};
    counts(x, "after a cut", due);
    x.restart(0);
    counts(x, "up again", due);
    for (int node = 0; node <= 2; node++) {
      x.crash(node);
      counts(x, "node " + node + " down", due);
    }
  }

  private static void counts(LeasedBuilds x, String when, int[] due) {
    for (int which = 0; which < due.length; which++) {
      CHECKS.due("count " + which + " " + when, x.count(which), due[which]);
    }
  }

  private static void countNone() {
    CHECKS.by("21: NONE for another number");
    LeasedBuilds x = Play.finished(2, 8, 6, 9);
    int[] wrong = {LOWEST, -2, -1, 10, 11, HIGHEST};
    for (int which : wrong) {
      CHECKS.due("count " + which, x.count(which), NONE);
    }
    CHECKS.due("the first", x.count(0), 2);
    CHECKS.due("the last", x.count(9), 1);
  }
}
