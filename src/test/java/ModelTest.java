import java.util.Random;

/** Runs of mixed calls, each answer compared with the model's; the seeds are fixed. */
public final class ModelTest {
  private static final int RUNS = 6000;
  private static final int MOST_CALLS = 512;
  private static final long[] PROGRAMS = {
      0L, 1L, 0x21L, 0x71L, 0x5858L, 0x9A3L, 0xBBBBL, 0x46L, -1L, 0x8555555555555555L, 0x7B1L};
  private static final int[] EDGES = {
      Integer.MIN_VALUE, Integer.MIN_VALUE + 1, -1, 0, 1, Integer.MAX_VALUE - 1, Integer.MAX_VALUE};
  private static final int[] WRONG = {-1, 5, 10, 24, Integer.MIN_VALUE, Integer.MAX_VALUE};

  private static final Checks CHECKS = new Checks();
  private static final long[] SEEN = new long[10];
  private static long lostAtOnce = 0;

  private final Random random;
  private final LeasedBuilds farm;
  private final Model model;
  private final String name;
  // How the caller of this run is minded: out of 100, how often what is done badly.
  private final int trouble;
  private int calls = 0;

  private ModelTest(int seed) {
    random = new Random(seed);
    int workers = random.nextInt(8) == 0 ? wrong() : 1 + random.nextInt(4);
    int lease = random.nextInt(8) == 0 ? wrong() : 1 + random.nextInt(random.nextInt(3) == 0 ? 40 : 8);
    farm = new LeasedBuilds(workers, lease);
    model = new Model(workers, lease);
    name = "run " + seed + ": new(" + workers + ", " + lease + ") call ";
    trouble = random.nextInt(4) * 8;
  }

  public static void main(String[] args) {
    for (int seed = 0; seed < RUNS && CHECKS.allRight(); seed++) {
      new ModelTest(seed).play();
    }
    for (int which = 0; which < 9; which++) {
      CHECKS.due("count " + which + " was above 0 in some run", SEEN[which] > 0, true);
    }
    CHECKS.due("some message was lost at once", lostAtOnce > 0, true);
    CHECKS.end();
  }

  private void play() {
    while (calls < MOST_CALLS && CHECKS.allRight()) {
      change();
      for (int i = 0; i < 3 && calls < MOST_CALLS && CHECKS.allRight(); i++) {
        look();
      }
    }
    for (int which = 0; which < 10; which++) {
      SEEN[which] += model.count(which);
    }
    lostAtOnce += model.lostAtOnce;
  }

  private void change() {
    int choice = random.nextInt(100);
    if (choice < trouble) {
      disturb();
    } else if (calls < 20 || choice > 98) {
      add();
    } else if (choice < 65) {
      int k = random.nextInt(3) == 0 ? message() : 0;
      int cut = random.nextInt(100) < trouble ? cut() : -1;
      due("deliver(" + k + ", " + cut + ")", farm.deliver(k, cut), model.deliver(k, cut));
    } else {
      due("tick()", farm.tick(), model.tick());
    }
  }

  private void add() {
    if (random.nextInt(3) == 0) {
      int content = content();
      due("file(" + content + ")", farm.file(content), model.file(content));
    } else {
      long program = random.nextInt(6) == 0 ? random.nextLong() : PROGRAMS[random.nextInt(PROGRAMS.length)];
      int a = item();
      int b = item();
      due("action(" + program + ", " + a + ", " + b + ")", farm.action(program, a, b), model.action(program, a, b));
    }
  }

  private void disturb() {
    int k = message();
    int node = random.nextInt(20) == 0 ? wrong() : random.nextInt(5);
    switch (random.nextInt(8)) {
      case 0, 1 -> due("lose(" + k + ")", farm.lose(k), model.lose(k));
      case 2, 3 -> due("spoil(" + k + ")", farm.spoil(k), model.spoil(k));
      case 4 -> due("crash(" + node + ")", farm.crash(node), model.crash(node));
      case 5, 6 -> due("restart(" + node + ")", farm.restart(node), model.restart(node));
      default -> due("collect()", farm.collect(), model.collect());
    }
  }

  private void look() {
    int k = message();
    int item = random.nextInt(20) == 0 ? wrong() : random.nextInt(10);
    int worker = random.nextInt(20) == 0 ? wrong() : random.nextInt(5);
    int which = random.nextInt(20) == 0 ? wrong() : random.nextInt(10);
    int digest = random.nextInt(20) == 0 ? random.nextInt() : Model.digest(model.content(item));
    switch (random.nextInt(10)) {
      case 0 -> due("flying()", farm.flying(), model.flying());
      case 1 -> due("message(" + k + ")", farm.message(k), model.message(k));
      case 2 -> due("carried(" + k + ")", farm.carried(k), model.carried(k));
      case 3 -> due("known(" + item + ")", farm.known(item), model.known(item));
      case 4 -> due("content(" + item + ")", farm.content(item), model.content(item));
      case 5 -> due("stored(" + digest + ")", farm.stored(digest), model.stored(digest));
      case 6 -> due("waiting()", farm.waiting(), model.waiting());
      case 7 -> due("lease(" + worker + ")", farm.lease(worker), model.lease(worker));
      case 8 -> due("doing(" + worker + ")", farm.doing(worker), model.doing(worker));
      default -> due("count(" + which + ")", farm.count(which), model.count(which));
    }
  }

  private int cut() {
    return random.nextInt(10) == 0 ? EDGES[random.nextInt(EDGES.length)] : random.nextInt(4) - 1;
  }

  private int content() {
    return switch (random.nextInt(8)) {
      case 0 -> random.nextInt();
      case 1 -> EDGES[random.nextInt(EDGES.length)];
      default -> random.nextInt(6) - 1;
    };
  }

  private int wrong() {
    return WRONG[random.nextInt(WRONG.length)];
  }

  private int item() {
    return random.nextInt(30) == 0 ? wrong() : random.nextInt(Math.max(1, model.items.size()));
  }

  private int message() {
    return random.nextInt(30) == 0 ? wrong() : random.nextInt(model.flying() + 1);
  }

  private void due(String call, int got, int want) {
    calls++;
    CHECKS.due(name + calls + ", " + call, got, want);
  }

  private void due(String call, boolean got, boolean want) {
    due(call, got ? 1 : 0, want ? 1 : 0);
  }
}
