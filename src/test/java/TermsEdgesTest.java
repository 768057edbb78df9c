import java.math.BigInteger;
import java.util.HashSet;
import java.util.Set;

/**
 * One test for each sentence that names a boundary case, from the document's beginning to what its
 * Terms say of the flight; MessageEdgesTest has the Terms from there on.
 */
public final class TermsEdgesTest {
  private static final int NONE = LeasedBuilds.NONE;
  private static final int NO_CUT = Play.NO_CUT;
  private static final int LOWEST = Integer.MIN_VALUE;
  private static final int HIGHEST = Integer.MAX_VALUE;
  private static final int[] EDGES = {LOWEST, LOWEST + 1, -2, -1, 0, 1, 2, HIGHEST - 1, HIGHEST};

  private static final Checks CHECKS = new Checks();

  public static void main(String[] args) {
    lastCalls();
    laterCalls();
    longestJob();
    tenItems();
    anyContent();
    anyProgram();
    lowerInputs();
    sameInputs();
    wrappingDigests();
    differentDigests();
    sameKeys();
    lastInstruction();
    afterTheLastInstruction();
    skipOverTheLastInstruction();
    oneTickEach();
    wrappingSums();
    wrappingDifferences();
    wrappingProducts();
    halves();
    jumpsBack();
    jumpFromTheLastInstruction();
    skipsIfOdd();
    greaterOfTwo();
    nothingInstructions();
    clientKnows();
    ready();
    clientNeverCrashes();
    noBlobTwice();
    noResultTwice();
    fullestDisk();
    oneLeaseEach();
    oneJobEach();
    atFirst();
    order();
    flightOf24();
    askLostAtOnce();
    resultLostAtOnce();
    leaseLostAtOnce();
    putAndAskLostAtOnce();
    CHECKS.end();
  }

  private static void lastCalls() {
    CHECKS.by("An object is used for at most 512 calls after it has been made");
    LeasedBuilds x = new LeasedBuilds(1, 40);
    for (int i = 1; i <= 511; i++) {
      CHECKS.due("tick " + i, x.tick(), 0);
    }
    CHECKS.due("call 512", x.count(8), 511);
    x = new LeasedBuilds(4, 1);
    x.file(6);
    x.action(0L, 0, 0);
    for (int i = 1; i <= 509; i++) {
      CHECKS.due("tick " + i, x.tick(), i % 5 == 1 ? 1 : 0);
    }
    CHECKS.due("call 512", x.flying(), 24);
  }

  /** LANGUAGE.md asks that no call ever throws, so the free answers have to come. */
  private static void laterCalls() {
    CHECKS.by("what later calls answer is free");
    LeasedBuilds x = Play.nineQueued(4, 1);
    int calls = 0;
    for (int i = 0; i < 5000; i++) {
      x.tick();
      x.deliver(i % 24, i % 3 - 1);
      x.restart(i % 5);
      calls += 3;
    }
    CHECKS.due("calls that came to an end", calls, 15000);
  }

  private static void longestJob() {
    CHECKS.by("An object is used for at most 512 calls after it has been made");
    LeasedBuilds x = Play.queued(1, 40, 0x7L, 6, HIGHEST);
    x.tick();
    x.deliver(0, NO_CUT);
    int ticks = 480;
    Play.ticks(x, ticks);
    CHECKS.due("a job without an end", x.doing(1), ticks);
    CHECKS.due("leases for it", x.count(2), 1 + ticks / 40);
  }

  private static void tenItems() {
    CHECKS.by("ITEMS are numbered 0, 1, .., at most 10 of them");
    LeasedBuilds x = new LeasedBuilds(2, 8);
    for (int i = 0; i < 10; i++) {
      CHECKS.due("item " + i, i % 2 == 0 ? x.file(i) : x.action(i, i - 1, 0), i);
    }
    CHECKS.due("an eleventh file", x.file(10), NONE);
    CHECKS.due("an eleventh action", x.action(10L, 0, 0), NONE);
    CHECKS.due("the tenth is asked for", x.tick(), 5);
  }

  private static void anyContent() {
    CHECKS.by("A FILE has a content (any int)");
    for (int content : EDGES) {
      LeasedBuilds x = Play.queued(1, 8, 0L, content, content);
      CHECKS.due("content of the file", x.content(0), content);
      CHECKS.due("its blob", x.stored(x.digest(content)), true);
      for (int i = 0; i < 3; i++) {
        x.tick();
        Play.settle(x);
      }
      CHECKS.due("it comes back as output", x.content(2), content);
      CHECKS.due("known", x.known(2), true);
      CHECKS.due("none was refused", x.count(5), 0);
    }
  }

  private static void anyProgram() {
    CHECKS.by("An ACTION has a PROGRAM (any long)");
    Play.run(CHECKS, 0L, 5, 9, 5, 0);
    Play.run(CHECKS, Long.MIN_VALUE, 5, 9, 5, 0);
    Play.run(CHECKS, Long.MAX_VALUE, -5, 0, -5, 16);
    Play.run(CHECKS, -1L, 5, 9, 5, 16);
    Play.run(CHECKS, 0xFFFFFFFF00000001L, 5, 9, 14, 1);
    Play.run(CHECKS, 0x1_BBBBBBBBL, 5, 9, 14, 9);
  }

  private static void lowerInputs() {
    CHECKS.by("two inputs a and b, items with lower numbers");
    LeasedBuilds x = new LeasedBuilds(2, 8);
    x.file(6);
    CHECKS.due("its own number as a", x.action(0L, 1, 0), NONE);
    CHECKS.due("its own number as b", x.action(0L, 0, 1), NONE);
    CHECKS.due("the number below its own", x.action(0L, 0, 0), 1);
    CHECKS.due("its own number as a, behind an action", x.action(0L, 2, 0), NONE);
    CHECKS.due("its own number as b, behind an action", x.action(0L, 0, 2), NONE);
    CHECKS.due("an action as a", x.action(0L, 1, 0), 2);
    CHECKS.due("an action as b", x.action(0L, 0, 2), 3);
  }

  private static void sameInputs() {
    CHECKS.by("a and b may be the same");
    LeasedBuilds x = new LeasedBuilds(1, 8);
    x.file(6);
    CHECKS.due("a file twice", x.action(0x1L, 0, 0), 1);
    CHECKS.due("an action twice", x.action(0x2L, 1, 1), 2);
    for (int i = 0; i < 12; i++) {
      x.tick();
      Play.settle(x);
    }
    CHECKS.due("6 + 6", x.content(1), 12);
    CHECKS.due("12 - 12", x.content(2), 0);
    CHECKS.due("known", x.known(2), true);
  }

  private static void wrappingDigests() {
    CHECKS.by("The DIGEST of a content c is e * 987654321, where d = c * 1234567891 and"
        + " e = d ^ (d >>> 11), all in wrapping ints");
    LeasedBuilds x = new LeasedBuilds(2, 8);
    for (int content : EDGES) {
      CHECKS.due("digest(" + content + ")", x.digest(content), digestInBigNumbers(content));
    }
    for (int shift = 0; shift < 32; shift++) {
      CHECKS.due("bit " + shift, x.digest(1 << shift), digestInBigNumbers(1 << shift));
    }
  }

  /** Numbers that never wrap, brought back into 32 bits after each step. */
  private static int digestInBigNumbers(int content) {
    BigInteger range = BigInteger.ONE.shiftLeft(32);
    BigInteger d = BigInteger.valueOf(content).multiply(BigInteger.valueOf(1234567891)).mod(range);
    BigInteger e = d.xor(d.shiftRight(11));
    return e.multiply(BigInteger.valueOf(987654321)).mod(range).intValue();
  }

  private static void differentDigests() {
    CHECKS.by("so different contents have different digests");
    Set<Integer> digests = new HashSet<>();
    for (int i = -1000; i < 1000; i++) {
      LeasedBuilds x = new LeasedBuilds(2, 8);
      digests.add(x.digest(i));
      digests.add(x.digest(LOWEST + 5000 + i));
      digests.add(x.digest(HIGHEST - 5000 + i));
    }
    CHECKS.due("digests of 6000 contents", digests.size(), 6000);
  }

  private static void sameKeys() {
    CHECKS.by("two keys are the same when all three parts are");
    CHECKS.due("all the same", keysOf(0x1_0000_0001L, 0, 1), 1);
    CHECKS.due("files with the same content", keysOf(0x1_0000_0001L, 2, 3), 1);
    CHECKS.due("the program's highest bit", keysOf(0x8000_0001_0000_0001L, 0, 1), 2);
    CHECKS.due("the program's upper half", keysOf(0x1L, 0, 1), 2);
    CHECKS.due("the program's lowest bit", keysOf(0x1_0000_0000L, 0, 1), 2);
    CHECKS.due("another a", keysOf(0x1_0000_0001L, 1, 1), 2);
    CHECKS.due("another b", keysOf(0x1_0000_0001L, 0, 0), 2);
    CHECKS.due("a and b changed about", keysOf(0x1_0000_0001L, 1, 0), 2);
  }

  /** How many keys wait when one action is asked for, and then this one too. */
  private static int keysOf(long program, int a, int b) {
    LeasedBuilds x = new LeasedBuilds(2, 8);
    x.file(6);
    x.file(9);
    x.file(6);
    x.file(9);
    x.action(0x1_0000_0001L, 0, 1);
    x.action(program, a, b);
    x.tick();
    Play.settle(x);
    return x.waiting();
  }

  private static void lastInstruction() {
    CHECKS.by("INSTRUCTION p (0 .. 15) is (int) (program >>> 4 * p) & 15");
    Play.run(CHECKS, 0x1BBBBBBBBBBBBBBBL, 5, 9, 14, 16);
    Play.run(CHECKS, 0xABBBBBBBBBBBBBBBL, 5, 9, 9, 16);
    Play.run(CHECKS, 0x0BBBBBBBBBBBBBBBL, 5, 9, 5, 15);
    Play.run(CHECKS, 0xBBBBBBB1BBBBBBBBL, 5, 9, 14, 16);
  }

  private static void afterTheLastInstruction() {
    CHECKS.by("for p above 15 it is 0");
    Play.run(CHECKS, 0x1111111111111111L, 0, 1, 16, 16);
    Play.run(CHECKS, 0xBBBBBBBBBBBBBBB5L, 1, 0, 4, 16);
  }

  private static void skipOverTheLastInstruction() {
    CHECKS.by("for p above 15 it is 0");
    Play.run(CHECKS, 0x8BBBBBBBBBBBBB55L, 1, 0, 13, 16);
    Play.run(CHECKS, 0x58BBBBBBBBBBBBBBL, 1, 0, 1, 15);
    Play.run(CHECKS, 0x58BBBBBBBBBBBBBBL, 2, 0, 7, 16);
  }

  private static void oneTickEach() {
    CHECKS.by("To do an instruction takes one tick");
    LeasedBuilds x = Play.queued(1, 40, 0L, 6, 9);
    x.tick();
    x.deliver(0, NO_CUT);
    CHECKS.due("nothing done before a tick", x.doing(1), 0);
    CHECKS.due("nothing sent before a tick", x.flying(), 0);
    CHECKS.due("END is done in a tick", x.tick(), 1);
    CHECKS.due("the RESULT", Play.flight(x), "50");
    CHECKS.due("no job", x.doing(1), NONE);
    Play.run(CHECKS, 0xBL, 5, 9, 5, 1);
  }

  private static void wrappingSums() {
    CHECKS.by("1 x becomes x + y (arithmetic wraps)");
    Play.run(CHECKS, 0x1L, HIGHEST, 1, LOWEST, 1);
    Play.run(CHECKS, 0x1L, LOWEST, -1, HIGHEST, 1);
    Play.run(CHECKS, 0x1L, LOWEST, LOWEST, 0, 1);
    Play.run(CHECKS, 0x1L, HIGHEST, HIGHEST, -2, 1);
  }

  private static void wrappingDifferences() {
    CHECKS.by("2 x - y (arithmetic wraps)");
    Play.run(CHECKS, 0x2L, LOWEST, 1, HIGHEST, 1);
    Play.run(CHECKS, 0x2L, HIGHEST, -1, LOWEST, 1);
    Play.run(CHECKS, 0x2L, 0, LOWEST, LOWEST, 1);
  }

  private static void wrappingProducts() {
    CHECKS.by("5 x * 3 + 1 (arithmetic wraps)");
    Play.run(CHECKS, 0x5L, HIGHEST, 0, HIGHEST - 1, 1);
    Play.run(CHECKS, 0x5L, LOWEST, 0, LOWEST + 1, 1);
    Play.run(CHECKS, 0x5L, 715827882, 0, HIGHEST, 1);
    Play.run(CHECKS, 0x5L, 715827883, 0, -2147483646, 1);
  }

  private static void halves() {
    CHECKS.by("4 x >> 1");
    Play.run(CHECKS, 0x4L, LOWEST, 0, -1073741824, 1);
    Play.run(CHECKS, 0x4L, HIGHEST, 0, 1073741823, 1);
    Play.run(CHECKS, 0x4L, -1, 0, -1, 1);
    Play.run(CHECKS, 0x4L, 1, 0, 0, 1);
  }

  private static void jumpsBack() {
    CHECKS.by("7 if y is above 0, y becomes y - 1 and p becomes 0 (else only p is one more)");
    Play.run(CHECKS, 0x675L, 0, 1, 0, 5);
    Play.run(CHECKS, 0x675L, 0, 0, 0, 3);
    Play.run(CHECKS, 0x675L, 0, -1, -1, 3);
    Play.run(CHECKS, 0x675L, 0, LOWEST, LOWEST, 3);
    Play.run(CHECKS, 0x75L, 0, 2, 13, 6);
  }

  private static void jumpFromTheLastInstruction() {
    CHECKS.by("7 if y is above 0, y becomes y - 1 and p becomes 0 (else only p is one more)");
    Play.run(CHECKS, 0x7BBBBBBBBBBBBBB5L, 0, 1, 4, 32);
    Play.run(CHECKS, 0x7BBBBBBBBBBBBBB5L, 0, 0, 1, 16);
  }

  private static void skipsIfOdd() {
    CHECKS.by("8 if x is odd, p is two more");
    int[] odd = {1, -1, LOWEST + 1, HIGHEST};
    for (int x : odd) {
      Play.run(CHECKS, 0x68L, x, 9, x, 1);
    }
    int[] even = {0, 2, -2, LOWEST, HIGHEST - 1};
    for (int x : even) {
      Play.run(CHECKS, 0x68L, x, 9, 9, 2);
    }
  }

  private static void greaterOfTwo() {
    CHECKS.by("10 x becomes the greater of x and y");
    Play.run(CHECKS, 0xAL, LOWEST, HIGHEST, HIGHEST, 1);
    Play.run(CHECKS, 0xAL, HIGHEST, LOWEST, HIGHEST, 1);
    Play.run(CHECKS, 0xAL, -1, 0, 0, 1);
    Play.run(CHECKS, 0xAL, 0, -1, 0, 1);
    Play.run(CHECKS, 0xAL, 7, 7, 7, 1);
  }

  private static void nothingInstructions() {
    CHECKS.by("11 .. 15 do nothing");
    for (long instruction = 11; instruction <= 15; instruction++) {
      Play.run(CHECKS, instruction, 5, 9, 5, 1);
      Play.run(CHECKS, 0x60L + instruction, 5, 9, 9, 2);
      Play.run(CHECKS, 0x60L + instruction, -1, -9, -9, 2);
    }
  }

  private static void clientKnows() {
    CHECKS.by("THE CLIENT knows the contents of files, and of an action as soon as an ANSWER has told it");
    LeasedBuilds x = Play.finished(2, 8, 0, 9);
    x.deliver(0, NO_CUT);
    CHECKS.due("the file", x.known(0), true);
    CHECKS.due("while the ANSWER flies", x.known(2), false);
    x.lose(0);
    CHECKS.due("when the ANSWER is lost", x.known(2), false);
    Play.ticks(x, 3);
    x.deliver(0, NO_CUT);
    x.deliver(0, NO_CUT);
    CHECKS.due("without a tick", x.known(2), true);
    CHECKS.due("a content of 0", x.content(2), 0);
  }

  private static void ready() {
    CHECKS.by("An action is READY when the client knows both inputs but not the action");
    LeasedBuilds x = Play.queued(1, 40, 0L, 6, 9);
    x.action(1L, 2, 0);
    x.action(2L, 0, 2);
    x.action(3L, 2, 2);
    CHECKS.due("a, b or both not known: only the LEASE", x.tick(), 1);
    x.deliver(0, NO_CUT);
    x.tick();
    x.deliver(0, NO_CUT);
    CHECKS.due("before the ANSWER", x.tick(), 0);
    x.deliver(0, NO_CUT);
    CHECKS.due("both inputs known", x.tick(), 3);
    CHECKS.due("ASKs", Play.flight(x), "10 10 10");
    CHECKS.due("not for the known one", Play.ticks(x, 4), 0);
  }

  private static void clientNeverCrashes() {
    CHECKS.by("The client never crashes");
    LeasedBuilds x = new LeasedBuilds(4, 8);
    x.file(6);
    x.action(0L, 0, 0);
    x.tick();
    x.deliver(0, NO_CUT);
    CHECKS.due("crash(9)", x.crash(9), false);
    CHECKS.due("restart(9)", x.restart(9), false);
    for (int node = 0; node <= 4; node++) {
      x.crash(node);
    }
    CHECKS.due("a LACK while all others are down", x.deliver(0, NO_CUT), 2);
    CHECKS.due("is answered", Play.flight(x), "30 30 10");
    CHECKS.due("and ticks send ASKs", Play.ticks(x, 5), 1);
    x = Play.finished(1, 8, 6, 9);
    x.deliver(0, NO_CUT);
    x.crash(0);
    x.crash(1);
    CHECKS.due("an ANSWER while all others are down", x.deliver(0, NO_CUT), 6);
    CHECKS.due("is heard", x.known(2), true);
  }

  private static void noBlobTwice() {
    CHECKS.by("BLOBS (contents, none twice, found by their digests)");
    LeasedBuilds x = Play.queued(1, 8, 0L, 6, 6);
    CHECKS.due("two files with the same content", x.count(0), 1);
    CHECKS.due("one upload", x.count(3), 1);
    x.tick();
    Play.settle(x);
    x.tick();
    Play.settle(x);
    CHECKS.due("known", x.known(2), true);
    CHECKS.due("an output that is stored already", x.count(0), 1);
    CHECKS.due("still one upload", x.count(3), 1);
  }

  private static void noResultTwice() {
    CHECKS.by("RESULTS (a key and the digest of the output; none twice for the same key)");
    LeasedBuilds x = Play.queued(2, 1, 0L, 6, 9);
    x.tick();
    x.deliver(0, NO_CUT);
    x.tick();
    x.deliver(1, NO_CUT);
    x.tick();
    CHECKS.due("two RESULTs fly", Play.flight(x), "50 50 41");
    x.deliver(0, NO_CUT);
    CHECKS.due("a result", x.count(1), 1);
    x.deliver(0, NO_CUT);
    CHECKS.due("no second one", x.count(1), 1);
  }

  private static void fullestDisk() {
    CHECKS.by("THE SERVER (node 0) has a DISK with BLOBS and RESULTS, of at most 10 items");
    LeasedBuilds x = new LeasedBuilds(4, 40);
    x.file(1);
    for (int i = 1; i < 10; i++) {
      x.action(0x5L, i - 1, i - 1);
    }
    for (int i = 0; i < 60 && x.count(9) > 0; i++) {
      x.tick();
      Play.settle(x);
    }
    CHECKS.due("the last content", x.content(9), 29524);
    CHECKS.due("a blob for each item", x.count(0), 10);
    CHECKS.due("a result for each action", x.count(1), 9);
    CHECKS.due("one blob is no output", x.collect(), 1);
    CHECKS.due("the last output", x.stored(x.digest(29524)), true);
  }

  private static void oneLeaseEach() {
    CHECKS.by("LEASES (for each worker at most one: a key and the tick at which it ends)");
    for (int workers = 1; workers <= 4; workers++) {
      LeasedBuilds x = Play.nineQueued(workers, 40);
      CHECKS.due("all wait", x.waiting(), 9);
      CHECKS.due("one LEASE a worker", x.tick(), workers);
      CHECKS.due("the others wait", x.waiting(), 9 - workers);
      CHECKS.due("leases given", x.count(2), workers);
      CHECKS.due("the last worker's", x.lease(workers), 40);
      CHECKS.due("a worker more", x.lease(workers + 1), NONE);
    }
  }

  private static void oneJobEach() {
    CHECKS.by("THE WORKERS (nodes 1, 2, ..) have each at most one JOB");
    LeasedBuilds x = Play.queued(1, 1, 0xBBBL, 6, 9);
    x.tick();
    x.tick();
    CHECKS.due("two LEASEs to one worker", Play.flight(x), "41 41");
    x.deliver(0, NO_CUT);
    x.deliver(0, NO_CUT);
    int results = 0;
    for (int i = 0; i < 10; i++) {
      x.tick();
      results += Play.find(x, 50) == NONE ? 0 : 1;
      Play.loseAll(x);
    }
    CHECKS.due("RESULTs", results, 1);
  }

  private static void atFirst() {
    CHECKS.by("at first all are up, the disk and the queue are empty, there are no leases and no jobs");
    LeasedBuilds x = new LeasedBuilds(4, 8);
    for (int node = 0; node <= 4; node++) {
      CHECKS.due("restart of node " + node, x.restart(node), false);
    }
    CHECKS.due("blobs", x.count(0), 0);
    CHECKS.due("results", x.count(1), 0);
    CHECKS.due("digest 0", x.stored(0), false);
    CHECKS.due("waiting", x.waiting(), 0);
    for (int w = 1; w <= 4; w++) {
      CHECKS.due("lease of " + w, x.lease(w), NONE);
      CHECKS.due("job of " + w, x.doing(w), NONE);
    }
    CHECKS.due("flying", x.flying(), 0);
  }

  private static void order() {
    CHECKS.by("MESSAGES IN FLIGHT stand in the order in which they were sent (0 the oldest)");
    LeasedBuilds x = Play.uploading(6, 9);
    Play.ticks(x, 5);
    CHECKS.due("the newest is last", Play.flight(x), "30 30 10 10");
    x.deliver(1, NO_CUT);
    CHECKS.due("one from the middle is gone", Play.flight(x), "30 10 10");
    x.deliver(1, NO_CUT);
    CHECKS.due("what it sent is last", Play.flight(x), "30 10 29");
    CHECKS.due("the oldest", x.carried(0), 6);
    x.deliver(0, NO_CUT);
    CHECKS.due("the next is the oldest now", Play.flight(x), "10 29");
  }

  private static void flightOf24() {
    CHECKS.by("at most 24");
    LeasedBuilds x = Play.full();
    CHECKS.due("24 fit", x.flying(), 24);
    CHECKS.due("the last of them", x.message(23), 10);
    x.lose(7);
    x.action(9L, 0, 0);
    CHECKS.due("one more behind 23", x.tick(), 1);
    CHECKS.due("24 again", x.flying(), 24);
    CHECKS.due("no message 24", x.message(24), NONE);
  }

  private static void askLostAtOnce() {
    CHECKS.by("one that is sent while 24 are in flight is lost at once");
    LeasedBuilds x = Play.full();
    x.action(9L, 0, 0);
    CHECKS.due("an ASK is sent", x.tick(), 1);
    CHECKS.due("24 fly", x.flying(), 24);
    x.lose(0);
    CHECKS.due("it does not come into a place that is free later", x.flying(), 23);
    Play.loseAll(x);
    CHECKS.due("nothing until 5 ticks after the others", Play.ticks(x, 3), 0);
    CHECKS.due("the others", x.tick(), 8);
    CHECKS.due("5 ticks after the lost one", x.tick(), 1);
  }

  private static void resultLostAtOnce() {
    CHECKS.by("one that is sent while 24 are in flight is lost at once");
    LeasedBuilds x = Play.fullWhileLeased(-1L, true);
    CHECKS.due("24 fly", x.flying(), 24);
    CHECKS.due("the last instruction is done", x.doing(1), 16);
    CHECKS.due("a RESULT is sent", x.tick(), 1);
    CHECKS.due("still 24", x.flying(), 24);
    CHECKS.due("it is not among them", Play.find(x, 50), NONE);
    CHECKS.due("the job is over", x.doing(1), NONE);
  }

  private static void leaseLostAtOnce() {
    CHECKS.by("one that is sent while 24 are in flight is lost at once");
    LeasedBuilds x = Play.fullWhileLeased(0L, false);
    Play.ticks(x, 3);
    CHECKS.due("a LEASE is sent", x.tick(), 1);
    CHECKS.due("still 24", x.flying(), 24);
    CHECKS.due("it is not among them", Play.find(x, 42), NONE);
    CHECKS.due("the lease is given", x.lease(2), 20);
    CHECKS.due("and counted", x.count(2), 2);
    CHECKS.due("that of worker 1 has ended", x.lease(1), NONE);
  }

  private static void putAndAskLostAtOnce() {
    CHECKS.by("one that is sent while 24 are in flight is lost at once");
    LeasedBuilds x = Play.full();
    x.deliver(0, NO_CUT);
    CHECKS.due("a LACK fits where the ASK was", x.message(23), 29);
    x.deliver(23, NO_CUT);
    CHECKS.due("of two PUTs and an ASK, one fits", x.flying(), 24);
    CHECKS.due("the first PUT", x.message(23), 30);
    x.lose(0);
    x.lose(0);
    CHECKS.due("the others do not come later", x.flying(), 22);
  }
}
