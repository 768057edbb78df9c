import java.util.ArrayList;
import java.util.LinkedHashMap;
import java.util.List;
import java.util.Map;
import java.util.TreeMap;

/** A second telling of the document, with the Java library's collections, to compare with. */
final class Model {
  static final int NONE = -1;

  record Key(long program, int a, int b) {}

  record Item(boolean isFile, long program, int a, int b) {}

  record Lease(Key key, int end) {}

  static final class Message {
    int kind;
    int receiver;
    int item;
    Key key;
    boolean lacksA;
    boolean lacksB;
    int[] digests = {};
    int[] contents = {};
  }

  static final class Job {
    Key key;
    long x;
    long y;
    int p;
    int done;
  }

  final int workers;
  final int length;
  final List<Item> items = new ArrayList<>();
  final Map<Integer, Integer> contents = new TreeMap<>();
  final Map<Integer, Integer> lastAsk = new TreeMap<>();
  final List<Message> flight = new ArrayList<>();
  final Map<Integer, Integer> blobs = new TreeMap<>();
  final Map<Key, Integer> results = new LinkedHashMap<>();
  final List<Key> queue = new ArrayList<>();
  final Map<Integer, Lease> leases = new TreeMap<>();
  final Map<Integer, Job> jobs = new TreeMap<>();
  final boolean[] up;
  final int[] counts = new int[10];
  int latest = NONE;
  int sent = 0;
  int lostAtOnce = 0;
  int writesLeft = NONE;

  Model(int workers, int lease) {
    this.workers = workers >= 1 && workers <= 4 ? workers : 2;
    this.length = lease >= 1 && lease <= 40 ? lease : 8;
    this.up = new boolean[this.workers + 1];
    java.util.Arrays.fill(up, true);
  }

  int file(int content) {
    if (items.size() == 10) {
      return NONE;
    }
    contents.put(items.size(), content);
    items.add(new Item(true, 0, 0, 0));
    return items.size() - 1;
  }

  int action(long program, int a, int b) {
    if (items.size() == 10 || Math.min(a, b) < 0 || Math.max(a, b) >= items.size()) {
      return NONE;
    }
    items.add(new Item(false, program, a, b));
    return items.size() - 1;
  }

  int tick() {
    sent = 0;
    counts[8]++;
    for (int w = 1; w <= workers; w++) {
      if (up[w] && jobs.containsKey(w) && instruct(jobs.get(w))) {
        Job job = jobs.remove(w);
        Message m = message(5, 0);
        m.key = job.key;
        m.contents = new int[] {(int) job.x};
        m.digests = new int[] {digest((int) job.x)};
        send(m);
      }
    }
    if (up[0]) {
      serverTick();
    }
    for (int i = 0; i < items.size(); i++) {
      if (ready(i) && (!lastAsk.containsKey(i) || counts[8] - lastAsk.get(i) >= 5)) {
        ask(i);
      }
    }
    return sent;
  }

  private void serverTick() {
    for (int w = 1; w <= workers; w++) {
      Lease lease = leases.get(w);
      if (lease != null && lease.end() <= counts[8]) {
        leases.remove(w);
        queue.add(lease.key());
      }
    }
    while (!queue.isEmpty() && leases.size() < workers) {
      int w = latest == NONE ? 1 : latest % workers + 1;
      while (leases.containsKey(w)) {
        w = w % workers + 1;
      }
      Key key = queue.remove(0);
      leases.put(w, new Lease(key, counts[8] + length));
      latest = w;
      counts[2]++;
      Message m = message(4, w);
      m.key = key;
      m.digests = new int[] {key.a(), key.b()};
      m.contents = new int[] {blobs.get(key.a()), blobs.get(key.b())};
      send(m);
    }
  }

  /** Whether the job is over. The numbers are kept as ints in longs. */
  private static boolean instruct(Job job) {
    String digits = String.format("%016x", job.key.program());
    int instruction = job.p > 15 ? 0 : Character.digit(digits.charAt(15 - job.p), 16);
    if (instruction == 0) {
      return true;
    }
    long x = job.x;
    long y = job.y;
    job.done++;
    job.p++;
    switch (instruction) {
      case 1 -> job.x = (int) (x + y);
      case 2 -> job.x = (int) (x - y);
      case 3 -> job.x = x ^ y;
      case 4 -> job.x = Math.floorDiv(x, 2L);
      case 5 -> job.x = (int) (x * 3 + 1);
      case 6 -> {
        job.x = y;
        job.y = x;
      }
      case 7 -> {
        if (y > 0) {
          job.y = y - 1;
          job.p = 0;
        }
      }
      case 8 -> job.p += Math.floorMod(x, 2) == 1 ? 1 : 0;
      case 9 -> job.y = x;
      case 10 -> job.x = x > y ? x : y;
      default -> { }
    }
    return false;
  }

  int deliver(int k, int cut) {
    if (k < 0 || k >= flight.size()) {
      return NONE;
    }
    Message m = flight.remove(k);
    if (m.receiver != 9 && !up[m.receiver]) {
      return 0;
    }
    for (int i = 0; i < m.contents.length; i++) {
      if (digest(m.contents[i]) != m.digests[i]) {
        counts[5]++;
        return m.kind;
      }
    }
    writesLeft = cut < 0 ? Integer.MAX_VALUE : cut;
    switch (m.kind) {
      case 1 -> onAsk(m);
      case 2 -> onLack(m);
      case 3 -> {
        if (!blobs.containsKey(m.digests[0]) && mayWrite()) {
          blobs.put(m.digests[0], m.contents[0]);
          counts[3]++;
        }
      }
      case 4 -> {
        Job job = new Job();
        job.key = m.key;
        job.x = m.contents[0];
        job.y = m.contents[1];
        jobs.put(m.receiver, job);
      }
      case 5 -> onResult(m);
      default -> onAnswer(m);
    }
    return m.kind;
  }

  private boolean mayWrite() {
    if (writesLeft == 0) {
      counts[7]++;
      crash(0);
      return false;
    }
    writesLeft--;
    return true;
  }

  private void onAsk(Message m) {
    if (results.containsKey(m.key)) {
      counts[4]++;
      answer(m.key, results.get(m.key));
    } else if (!blobs.containsKey(m.key.a()) || !blobs.containsKey(m.key.b())) {
      Message lack = message(2, 9);
      lack.item = m.item;
      lack.lacksA = !blobs.containsKey(m.key.a());
      lack.lacksB = !blobs.containsKey(m.key.b());
      send(lack);
    } else if (!queue.contains(m.key) && leases.values().stream().noneMatch(l -> l.key().equals(m.key))) {
      queue.add(m.key);
    }
  }

  private void onLack(Message m) {
    if (contents.containsKey(m.item)) {
      return;
    }
    Item item = items.get(m.item);
    if (m.lacksA) {
      put(contents.get(item.a()));
    }
    if (m.lacksB) {
      put(contents.get(item.b()));
    }
    ask(m.item);
  }

  private void onResult(Message m) {
    if (results.containsKey(m.key)) {
      counts[6]++;
      return;
    }
    if (!blobs.containsKey(m.digests[0])) {
      if (!mayWrite()) {
        return;
      }
      blobs.put(m.digests[0], m.contents[0]);
    }
    if (!mayWrite()) {
      return;
    }
    results.put(m.key, m.digests[0]);
    queue.remove(m.key);
    leases.values().removeIf(l -> l.key().equals(m.key));
    answer(m.key, m.digests[0]);
  }

  private void onAnswer(Message m) {
    boolean more = true;
    while (more) {
      more = false;
      for (int i = 0; i < items.size(); i++) {
        if (ready(i) && key(i).equals(m.key)) {
          contents.put(i, m.contents[0]);
          more = true;
        }
      }
    }
  }

  private void ask(int item) {
    Message m = message(1, 0);
    m.item = item;
    m.key = key(item);
    lastAsk.put(item, counts[8]);
    send(m);
  }

  private void put(int content) {
    Message m = message(3, 0);
    m.contents = new int[] {content};
    m.digests = new int[] {digest(content)};
    send(m);
  }

  private void answer(Key key, int digest) {
    Message m = message(6, 9);
    m.key = key;
    m.contents = new int[] {blobs.get(digest)};
    m.digests = new int[] {digest};
    send(m);
  }

  private static Message message(int kind, int receiver) {
    Message m = new Message();
    m.kind = kind;
    m.receiver = receiver;
    return m;
  }

  private void send(Message m) {
    sent++;
    if (flight.size() < 24) {
      flight.add(m);
    } else {
      lostAtOnce++;
    }
  }

  private boolean ready(int item) {
    Item it = items.get(item);
    return !contents.containsKey(item) && contents.containsKey(it.a()) && contents.containsKey(it.b());
  }

  private Key key(int item) {
    Item it = items.get(item);
    return new Key(it.program(), digest(contents.get(it.a())), digest(contents.get(it.b())));
  }

  boolean lose(int k) {
    if (k < 0 || k >= flight.size()) {
      return false;
    }
    flight.remove(k);
    return true;
  }

  boolean spoil(int k) {
    if (k < 0 || k >= flight.size() || flight.get(k).contents.length == 0) {
      return false;
    }
    flight.get(k).contents[0] ^= 1;
    return true;
  }

  boolean crash(int node) {
    if (node < 0 || node > workers || !up[node]) {
      return false;
    }
    up[node] = false;
    jobs.remove(node);
    if (node == 0) {
      queue.clear();
      leases.clear();
      latest = NONE;
    }
    return true;
  }

  boolean restart(int node) {
    if (node < 0 || node > workers || up[node]) {
      return false;
    }
    up[node] = true;
    return true;
  }

  int collect() {
    if (!up[0]) {
      return NONE;
    }
    List<Integer> kept = new ArrayList<>(results.values());
    for (Key key : queue) {
      kept.addAll(List.of(key.a(), key.b()));
    }
    for (Lease lease : leases.values()) {
      kept.addAll(List.of(lease.key().a(), lease.key().b()));
    }
    int before = blobs.size();
    blobs.keySet().retainAll(kept);
    return before - blobs.size();
  }

  int flying() {
    return flight.size();
  }

  int message(int k) {
    return k < 0 || k >= flight.size() ? NONE : 10 * flight.get(k).kind + flight.get(k).receiver;
  }

  int carried(int k) {
    return k < 0 || k >= flight.size() || flight.get(k).contents.length == 0 ? 0 : flight.get(k).contents[0];
  }

  boolean known(int item) {
    return contents.containsKey(item);
  }

  int content(int item) {
    return contents.getOrDefault(item, 0);
  }

  static int digest(int content) {
    int d = content * 1234567891;
    int e = d ^ (d >>> 11);
    return e * 987654321;
  }

  boolean stored(int digest) {
    return blobs.containsKey(digest);
  }

  int waiting() {
    return queue.size();
  }

  int lease(int w) {
    return leases.containsKey(w) ? leases.get(w).end() - counts[8] : NONE;
  }

  int doing(int w) {
    return jobs.containsKey(w) ? jobs.get(w).done : NONE;
  }

  int count(int which) {
    return switch (which) {
      case 0 -> blobs.size();
      case 1 -> results.size();
      case 9 -> items.size() - contents.size();
      default -> which < 0 || which > 9 ? NONE : counts[which];
    };
  }
}
