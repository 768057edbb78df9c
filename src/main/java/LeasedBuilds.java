/** A farm that builds the items of a graph on workers, over a network that the caller plays. */
public final class LeasedBuilds {
  public static final int NONE = -1;

  private static final int MOST_ITEMS = 10;
  private static final int MOST_FLYING = 24;
  private static final int ASK_AGAIN_AFTER = 5;
  private static final int LAST_INSTRUCTION = 15;

  // An item has one content and at most one key for ever, since what is spoilt is refused:
  // so there are never more keys, blobs or results than items.
  private static final int ROWS = MOST_ITEMS;

  private static final int ASK = 1;
  private static final int LACK = 2;
  private static final int PUT = 3;
  private static final int LEASE = 4;
  private static final int RESULT = 5;
  private static final int ANSWER = 6;

  private static final int SERVER = 0;
  private static final int CLIENT = 9;

  private final Flight flight;
  private final Client client;
  private final Server server;
  private final Worker[] workers;
  private int time;
  private int refused;

  public LeasedBuilds(int workers, int lease) {
    int number = workers < 1 || workers > 4 ? 2 : workers;
    int length = lease < 1 || lease > 40 ? 8 : lease;
    this.flight = new Flight();
    this.client = new Client(flight);
    this.server = new Server(number, length, flight);
    this.workers = new Worker[number];
    for (int i = 0; i < number; i++) {
      this.workers[i] = new Worker();
    }
    this.time = 0;
    this.refused = 0;
  }

  public int file(int content) {
    return client.addFile(content);
  }

  public int action(long program, int a, int b) {
    return client.addAction(program, a, b);
  }

  public int tick() {
    int before = flight.sent;
    time++;
    for (int i = 0; i < workers.length; i++) {
      workers[i].work(flight);
    }
    server.keepTime(time);
    client.askForReady(time);
    return flight.sent - before;
  }

  public int deliver(int k, int cut) {
    if (!flight.has(k)) {
      return NONE;
    }
    Message m = flight.take(k);
    if (!isUp(m.receiver)) {
      return 0;
    }
    if (m.isSound()) {
      hand(m, cut);
    } else {
      refused++;
    }
    return m.kind;
  }

  public boolean lose(int k) {
    if (!flight.has(k)) {
      return false;
    }
    flight.take(k);
    return true;
  }

  public boolean spoil(int k) {
    if (!flight.has(k) || !flight.at(k).hasContent()) {
      return false;
    }
    flight.at(k).first ^= 1;
    return true;
  }

  public boolean crash(int node) {
    if (!isNode(node) || !isUp(node)) {
      return false;
    }
    if (node == SERVER) {
      server.goDown();
    } else {
      workers[node - 1].goDown();
    }
    return true;
  }

  public boolean restart(int node) {
    if (!isNode(node) || isUp(node)) {
      return false;
    }
    if (node == SERVER) {
      server.up = true;
    } else {
      workers[node - 1].up = true;
    }
    return true;
  }

  public int collect() {
    return server.up ? server.sweep() : NONE;
  }

  public int flying() {
    return flight.size;
  }

  public int message(int k) {
    if (!flight.has(k)) {
      return NONE;
    }
    Message m = flight.at(k);
    return 10 * m.kind + m.receiver;
  }

  public int carried(int k) {
    return flight.has(k) && flight.at(k).hasContent() ? flight.at(k).first : 0;
  }

  public boolean known(int item) {
    return client.knows(item);
  }

  public int content(int item) {
    return client.knows(item) ? client.contents[item] : 0;
  }

  public int digest(int content) {
    return digestOf(content);
  }

  public boolean stored(int digest) {
    return server.disk.hasBlob(digest);
  }

  public int waiting() {
    return server.queue.size;
  }

  public int lease(int w) {
    return isWorker(w) ? server.ticksLeft(w, time) : NONE;
  }

  public int doing(int w) {
    return isWorker(w) && workers[w - 1].busy ? workers[w - 1].done : NONE;
  }

  public int count(int which) {
    switch (which) {
      case 0:
        return server.disk.blobs;
      case 1:
        return server.disk.results;
      case 2:
        return server.leasesGiven;
      case 3:
        return server.uploads;
      case 4:
        return server.hits;
      case 5:
        return refused;
      case 6:
        return server.duplicates;
      case 7:
        return server.cuts;
      case 8:
        return time;
      case 9:
        return client.unknown();
      default:
        return NONE;
    }
  }

  private boolean isWorker(int node) {
    return node >= 1 && node <= workers.length;
  }

  private boolean isNode(int node) {
    return node == SERVER || isWorker(node);
  }

  /** Whoever is neither the server nor a worker is the client, which never crashes. */
  private boolean isUp(int receiver) {
    if (receiver == SERVER) {
      return server.up;
    }
    return !isWorker(receiver) || workers[receiver - 1].up;
  }

  private void hand(Message m, int cut) {
    switch (m.kind) {
      case ASK:
        server.takeAsk(m);
        break;
      case LACK:
        client.takeLack(m, time);
        break;
      case PUT:
        server.takePut(m, cut);
        break;
      case LEASE:
        if (isWorker(m.receiver)) {
          workers[m.receiver - 1].begin(m);
        }
        break;
      case RESULT:
        server.takeResult(m, cut);
        break;
      case ANSWER:
        client.takeAnswer(m);
        break;
      default:
        break;
    }
  }

  private static int digestOf(int content) {
    int d = content * 1234567891;
    int e = d ^ (d >>> 11);
    return e * 987654321;
  }

  /** A program with the digests of the contents that it runs on. */
  private static final class Key {
    long program;
    int a;
    int b;

    void set(long newProgram, int newA, int newB) {
      program = newProgram;
      a = newA;
      b = newB;
    }

    void copy(Key other) {
      set(other.program, other.a, other.b);
    }

    boolean isSame(Key other) {
      return program == other.program && a == other.a && b == other.b;
    }

    boolean names(int digest) {
      return a == digest || b == digest;
    }
  }

  /** A row that serves for every kind: a kind reads only the fields that it has. */
  private static final class Message {
    final Key key = new Key();
    int kind;
    int receiver;
    int item;
    boolean lacksA;
    boolean lacksB;
    int digest;
    int first;
    int second;

    boolean hasContent() {
      return kind == PUT || kind == LEASE || kind == RESULT || kind == ANSWER;
    }

    boolean isSound() {
      if (kind == LEASE) {
        return digestOf(first) == key.a && digestOf(second) == key.b;
      }
      return !hasContent() || digestOf(first) == digest;
    }

    void fill(Key newKey, int newDigest, int content) {
      key.copy(newKey);
      digest = newDigest;
      first = content;
    }
  }

  /** The messages in flight. Its rows are made once and used again. */
  private static final class Flight {
    private final Message[] rows = new Message[MOST_FLYING];
    private final Message lost = new Message();
    // What was taken out last stays whole while it is handled, though that sends others.
    private Message taken = new Message();
    int size = 0;
    int sent = 0;

    Flight() {
      for (int i = 0; i < rows.length; i++) {
        rows[i] = new Message();
      }
    }

    boolean has(int k) {
      return k >= 0 && k < size;
    }

    /** Only for a k that it has. */
    Message at(int k) {
      return rows[k];
    }

    /** Only for a k that it has. The message is whole until the next is taken. */
    Message take(int k) {
      Message m = rows[k];
      for (int i = k + 1; i < size; i++) {
        rows[i - 1] = rows[i];
      }
      size--;
      rows[size] = taken;
      taken = m;
      return m;
    }

    /** The sender fills in the rest; when the flight is full, into a row that nobody reads. */
    Message send(int kind, int receiver) {
      sent++;
      Message m = lost;
      if (size < rows.length) {
        m = rows[size];
        size++;
      }
      m.kind = kind;
      m.receiver = receiver;
      return m;
    }
  }

  private static final class Client {
    private final Flight flight;
    private final boolean[] known = new boolean[MOST_ITEMS];
    final int[] contents = new int[MOST_ITEMS];
    private final long[] programs = new long[MOST_ITEMS];
    private final int[] as = new int[MOST_ITEMS];
    private final int[] bs = new int[MOST_ITEMS];
    private final int[] nextAsk = new int[MOST_ITEMS];
    private final Key scratch = new Key();
    private int items = 0;

    Client(Flight flight) {
      this.flight = flight;
    }

    boolean isItem(int item) {
      return item >= 0 && item < items;
    }

    boolean knows(int item) {
      return isItem(item) && known[item];
    }

    int unknown() {
      int number = 0;
      for (int i = 0; i < items; i++) {
        if (!known[i]) {
          number++;
        }
      }
      return number;
    }

    int addFile(int content) {
      if (items >= MOST_ITEMS) {
        return NONE;
      }
      learn(items, content);
      items++;
      return items - 1;
    }

    int addAction(long program, int a, int b) {
      if (items >= MOST_ITEMS || !isItem(a) || !isItem(b)) {
        return NONE;
      }
      programs[items] = program;
      as[items] = a;
      bs[items] = b;
      items++;
      return items - 1;
    }

    void askForReady(int time) {
      for (int i = 0; i < items; i++) {
        if (isReady(i) && time >= nextAsk[i]) {
          ask(i, time);
        }
      }
    }

    void takeLack(Message m, int time) {
      if (!isItem(m.item) || known[m.item]) {
        return;
      }
      if (m.lacksA) {
        put(contents[as[m.item]]);
      }
      if (m.lacksB) {
        put(contents[bs[m.item]]);
      }
      ask(m.item, time);
    }

    /** One pass does: an action that becomes ready by another has a higher number. */
    void takeAnswer(Message m) {
      for (int i = 0; i < items; i++) {
        if (isReady(i)) {
          writeKey(i, scratch);
          if (scratch.isSame(m.key)) {
            learn(i, m.first);
          }
        }
      }
    }

    private boolean isReady(int item) {
      return !known[item] && known[as[item]] && known[bs[item]];
    }

    private void learn(int item, int content) {
      known[item] = true;
      contents[item] = content;
    }

    private void writeKey(int item, Key into) {
      into.set(programs[item], digestOf(contents[as[item]]), digestOf(contents[bs[item]]));
    }

    private void ask(int item, int time) {
      Message m = flight.send(ASK, SERVER);
      m.item = item;
      writeKey(item, m.key);
      nextAsk[item] = time + ASK_AGAIN_AFTER;
    }

    private void put(int content) {
      Message m = flight.send(PUT, SERVER);
      m.digest = digestOf(content);
      m.first = content;
    }
  }

  /** What the server keeps when it crashes. */
  private static final class Disk {
    final int[] blobDigests = new int[ROWS];
    private final int[] blobContents = new int[ROWS];
    private final Key[] resultKeys = new Key[ROWS];
    final int[] resultDigests = new int[ROWS];
    int blobs = 0;
    int results = 0;

    Disk() {
      for (int i = 0; i < resultKeys.length; i++) {
        resultKeys[i] = new Key();
      }
    }

    boolean hasBlob(int digest) {
      return findBlob(digest) != NONE;
    }

    int blobOf(int digest) {
      int at = findBlob(digest);
      return at == NONE ? 0 : blobContents[at];
    }

    void writeBlob(int digest, int content) {
      if (blobs < ROWS) {
        blobDigests[blobs] = digest;
        blobContents[blobs] = content;
        blobs++;
      }
    }

    /** The last blob takes the place: their order is nowhere seen. */
    void removeBlob(int at) {
      if (at >= 0 && at < blobs) {
        blobs--;
        blobDigests[at] = blobDigests[blobs];
        blobContents[at] = blobContents[blobs];
      }
    }

    int findResult(Key key) {
      for (int i = 0; i < results; i++) {
        if (resultKeys[i].isSame(key)) {
          return i;
        }
      }
      return NONE;
    }

    void writeResult(Key key, int digest) {
      if (results < ROWS) {
        resultKeys[results].copy(key);
        resultDigests[results] = digest;
        results++;
      }
    }

    boolean isOutput(int digest) {
      for (int i = 0; i < results; i++) {
        if (resultDigests[i] == digest) {
          return true;
        }
      }
      return false;
    }

    private int findBlob(int digest) {
      for (int i = 0; i < blobs; i++) {
        if (blobDigests[i] == digest) {
          return i;
        }
      }
      return NONE;
    }
  }

  /** Keys in their order, in rows that are used again. */
  private static final class Queue {
    private final Key[] rows = new Key[ROWS];
    int size = 0;

    Queue() {
      for (int i = 0; i < rows.length; i++) {
        rows[i] = new Key();
      }
    }

    int find(Key key) {
      for (int i = 0; i < size; i++) {
        if (rows[i].isSame(key)) {
          return i;
        }
      }
      return NONE;
    }

    void append(Key key) {
      if (size < rows.length) {
        rows[size].copy(key);
        size++;
      }
    }

    /** Only while it is not empty. */
    Key first() {
      return rows[0];
    }

    void remove(int at) {
      if (at < 0 || at >= size) {
        return;
      }
      Key removed = rows[at];
      for (int i = at + 1; i < size; i++) {
        rows[i - 1] = rows[i];
      }
      size--;
      rows[size] = removed;
    }

    boolean names(int digest) {
      for (int i = 0; i < size; i++) {
        if (rows[i].names(digest)) {
          return true;
        }
      }
      return false;
    }
  }

  private static final class Server {
    private final Flight flight;
    final Disk disk = new Disk();
    final Queue queue = new Queue();
    private final Leases leases;
    private final int length;
    boolean up = true;
    int leasesGiven = 0;
    int uploads = 0;
    int hits = 0;
    int duplicates = 0;
    int cuts = 0;

    Server(int workers, int length, Flight flight) {
      this.flight = flight;
      this.leases = new Leases(workers);
      this.length = length;
    }

    void goDown() {
      up = false;
      queue.size = 0;
      leases.forget();
    }

    int ticksLeft(int w, int time) {
      return leases.has(w) ? leases.ends[w - 1] - time : NONE;
    }

    void keepTime(int time) {
      if (up) {
        endLeases(time);
        giveLeases(time);
      }
    }

    void takeAsk(Message m) {
      int result = disk.findResult(m.key);
      if (result != NONE) {
        hits++;
        answer(m.key, disk.resultDigests[result], disk.blobOf(disk.resultDigests[result]));
      } else if (!disk.hasBlob(m.key.a) || !disk.hasBlob(m.key.b)) {
        sendLack(m);
      } else if (queue.find(m.key) == NONE && leases.find(m.key) == NONE) {
        queue.append(m.key);
      }
    }

    void takePut(Message m, int cut) {
      if (disk.hasBlob(m.digest)) {
        return;
      }
      if (cut == 0) {
        crashByCut();
        return;
      }
      disk.writeBlob(m.digest, m.first);
      uploads++;
    }

    void takeResult(Message m, int cut) {
      if (disk.findResult(m.key) != NONE) {
        duplicates++;
        return;
      }
      int writes = 0;
      if (!disk.hasBlob(m.digest)) {
        if (cut == writes) {
          crashByCut();
          return;
        }
        disk.writeBlob(m.digest, m.first);
        writes++;
      }
      if (cut == writes) {
        crashByCut();
        return;
      }
      disk.writeResult(m.key, m.digest);
      queue.remove(queue.find(m.key));
      leases.end(leases.find(m.key));
      answer(m.key, m.digest, m.first);
    }

    int sweep() {
      int swept = 0;
      for (int i = disk.blobs - 1; i >= 0; i--) {
        if (!isNeeded(disk.blobDigests[i])) {
          disk.removeBlob(i);
          swept++;
        }
      }
      return swept;
    }

    private boolean isNeeded(int digest) {
      return disk.isOutput(digest) || queue.names(digest) || leases.names(digest);
    }

    private void crashByCut() {
      cuts++;
      goDown();
    }

    private void endLeases(int time) {
      for (int w = 1; w <= leases.workers(); w++) {
        if (leases.has(w) && leases.ends[w - 1] <= time) {
          queue.append(leases.keys[w - 1]);
          leases.end(w);
        }
      }
    }

    private void giveLeases(int time) {
      for (int i = 0; i < leases.workers(); i++) {
        int w = leases.nextFree();
        if (queue.size == 0 || w == NONE) {
          return;
        }
        leases.give(w, queue.first(), time + length);
        leasesGiven++;
        sendLease(w, queue.first());
        queue.remove(0);
      }
    }

    private void sendLease(int w, Key key) {
      Message m = flight.send(LEASE, w);
      m.key.copy(key);
      m.first = disk.blobOf(key.a);
      m.second = disk.blobOf(key.b);
    }

    private void sendLack(Message asked) {
      Message m = flight.send(LACK, CLIENT);
      m.item = asked.item;
      m.lacksA = !disk.hasBlob(asked.key.a);
      m.lacksB = !disk.hasBlob(asked.key.b);
    }

    private void answer(Key key, int digest, int content) {
      flight.send(ANSWER, CLIENT).fill(key, digest, content);
    }
  }

  /** At most one lease a worker; workers are numbered from 1. */
  private static final class Leases {
    private final boolean[] held;
    final Key[] keys;
    final int[] ends;
    // 0 when there was none: then worker 1 is the next.
    private int latest = 0;

    Leases(int workers) {
      held = new boolean[workers];
      keys = new Key[workers];
      ends = new int[workers];
      for (int i = 0; i < workers; i++) {
        keys[i] = new Key();
      }
    }

    int workers() {
      return held.length;
    }

    boolean has(int w) {
      return w >= 1 && w <= held.length && held[w - 1];
    }

    int find(Key key) {
      for (int w = 1; w <= held.length; w++) {
        if (held[w - 1] && keys[w - 1].isSame(key)) {
          return w;
        }
      }
      return NONE;
    }

    int nextFree() {
      for (int i = 1; i <= held.length; i++) {
        int w = latest + i > held.length ? latest + i - held.length : latest + i;
        if (!held[w - 1]) {
          return w;
        }
      }
      return NONE;
    }

    /** Only for a worker that there is. */
    void give(int w, Key key, int end) {
      held[w - 1] = true;
      keys[w - 1].copy(key);
      ends[w - 1] = end;
      latest = w;
    }

    void end(int w) {
      if (has(w)) {
        held[w - 1] = false;
      }
    }

    void forget() {
      for (int i = 0; i < held.length; i++) {
        held[i] = false;
      }
      latest = 0;
    }

    boolean names(int digest) {
      for (int i = 0; i < held.length; i++) {
        if (held[i] && keys[i].names(digest)) {
          return true;
        }
      }
      return false;
    }
  }

  private static final class Worker {
    private final Key key = new Key();
    boolean up = true;
    boolean busy = false;
    int done = 0;
    private int x;
    private int y;
    private int p;

    void goDown() {
      up = false;
      busy = false;
    }

    void begin(Message m) {
      key.copy(m.key);
      x = m.first;
      y = m.second;
      p = 0;
      done = 0;
      busy = true;
    }

    void work(Flight flight) {
      if (!up || !busy) {
        return;
      }
      int instruction = next();
      if (instruction == 0) {
        busy = false;
        flight.send(RESULT, SERVER).fill(key, digestOf(x), x);
      } else {
        run(instruction);
        done++;
      }
    }

    /** Past the program's end every instruction is END; a shift would go round there. */
    private int next() {
      return p > LAST_INSTRUCTION ? 0 : (int) (key.program >>> 4 * p) & 15;
    }

    private void run(int instruction) {
      p++;
      switch (instruction) {
        case 1:
          x = x + y;
          break;
        case 2:
          x = x - y;
          break;
        case 3:
          x = x ^ y;
          break;
        case 4:
          x = x >> 1;
          break;
        case 5:
          x = x * 3 + 1;
          break;
        case 6:
          int oldX = x;
          x = y;
          y = oldX;
          break;
        case 7:
          if (y > 0) {
            y--;
            p = 0;
          }
          break;
        case 8:
          if ((x & 1) != 0) {
            p++;
          }
          break;
        case 9:
          y = x;
          break;
        case 10:
          x = Math.max(x, y);
          break;
        default:
          break;
      }
    }
  }
}
