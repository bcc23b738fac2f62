/**
 * Ports that are bound into one, and the flows that are spread over those that carry. The words in
 * capitals are the document's.
 */
public final class BoundPorts {
  public static final int NONE = -1, UNKNOWN = -1001, OUTSIDE = -1002, STATE = -1003, FULL = -1004;

  private static final int MOST_PORTS = 6;
  private static final int MOST_LETTERS_OF_PAGE = 17;
  private static final int LEAST_CODE = 32;
  private static final int MOST_CODE = 126;
  /** Its KEY, its RANK, and the ',' behind it. */
  private static final int LETTERS_OF_PORT = 3;
  private static final int KEYS = 4;
  private static final int MOST_RANK = 9;
  private static final int MOST_PARTNER = 9;
  private static final int MOST_WAIT = 9;
  private static final int MOST_SHIFT = 9;
  private static final int MOST_WAITED = 9;
  private static final int AGE_FORGOTTEN = 4;
  private static final int FLOWS = 12;
  private static final int QUEUE_LIMIT = 8;
  private static final int HELD_LIMIT = 8;
  private static final int MOST_TICKS = 50;

  private static final int WIDTH_AT_FIRST = 2;
  private static final int WAIT_AT_FIRST = 2;

  private static final int APART = 0;
  private static final int SPARE = 1;
  private static final int CHOSEN = 2;
  private static final int ATTACHED = 3;
  private static final int CARRIES = 4;

  private static final int IN_QUEUE = 0;
  private static final int HELD = 1;
  private static final int LOST = 2;

  private static final int HELD_OF_FLOW = 2;
  private static final int SENT_OF_FLOW = 3;
  private static final int DELIVERED_OF_FLOW = 4;
  private static final int LOST_OF_FLOW = 5;

  private static final long DIGEST_AT_FIRST = 1741L;
  private static final long DIGEST_FACTOR = 31L;

  private final Page page = new Page();
  private final Port[] ports = new Port[MOST_PORTS];
  private final Flow[] flows = new Flow[FLOWS];

  /** 0 as long as there is no BOARD. */
  private int portCount = 0;

  private int width = WIDTH_AT_FIRST;
  private int waitTicks = WAIT_AT_FIRST;
  private int shift = 0;
  private int ticks = 0;
  private int answered = 0;
  private int boardsRead = 0;

  public BoundPorts() {
    for (int i = 0; i < MOST_PORTS; i++) {
      ports[i] = new Port();
    }
    for (int f = 0; f < FLOWS; f++) {
      flows[f] = new Flow();
    }
  }

  // ---- texts

  public int letter(int code) {
    if (code < LEAST_CODE || code > MOST_CODE) {
      return OUTSIDE;
    }
    return page.append(code) ? page.size : FULL;
  }

  public int blank() {
    int had = page.size;
    page.size = 0;
    return had;
  }

  public int fault() {
    return page.firstWrong();
  }

  public int board() {
    if (!page.isBoard()) {
      return STATE;
    }
    portCount = page.portsWritten();
    for (int i = 0; i < portCount; i++) {
      ports[i].restart(page.keyOfPort(i), page.rankOfPort(i));
    }
    for (int f = 0; f < FLOWS; f++) {
      flows[f].restart();
    }
    page.size = 0;
    ticks = 0;
    answered = 0;
    boardsRead++;
    return portCount;
  }

  // ---- what is told

  public int set(int what, int v) {
    switch (what) {
      case 0:
        return changeWidth(v);
      case 1:
        return changeWait(v);
      case 2:
        return changeShift(v);
      default:
        return OUTSIDE;
    }
  }

  public int rank(int port, int v) {
    if (!isPort(port)) {
      return UNKNOWN;
    }
    if (v < 0 || v > MOST_RANK) {
      return OUTSIDE;
    }
    int was = ports[port].rank;
    ports[port].rank = v;
    chooseAll();
    return was;
  }

  public int up(int port, boolean is) {
    if (!isPort(port)) {
      return UNKNOWN;
    }
    int was = asNumber(ports[port].up);
    ports[port].up = is;
    if (!is) {
      ports[port].heard = false;
      chooseAll();
      dropQueue(ports[port].queue);
    }
    return was;
  }

  public int hear(int port, int partner, int key, boolean ready) {
    if (!isPort(port)) {
      return UNKNOWN;
    }
    if (partner < 1 || partner > MOST_PARTNER || !isKey(key)) {
      return OUTSIDE;
    }
    if (!ports[port].up) {
      return STATE;
    }
    ports[port].keepHeard(partner, key, ready);
    chooseAll();
    return asNumber(carries(ports[port]));
  }

  // ---- ports

  public int of(int port, int what) {
    if (!isPort(port)) {
      return UNKNOWN;
    }
    Port p = ports[port];
    switch (what) {
      case 0:
        return p.key;
      case 1:
        return p.rank;
      case 2:
        return asNumber(p.up);
      case 3:
        return p.heard ? p.partner : NONE;
      case 4:
        return p.heard ? p.partnerKey : NONE;
      case 5:
        return p.heard ? asNumber(p.ready) : NONE;
      case 6:
        return p.heard ? p.age : NONE;
      case 7:
        return howItIs(p);
      case 8:
        return p.waited;
      case 9:
        return p.queue.size;
      default:
        return OUTSIDE;
    }
  }

  public int queue(int port, int place) {
    if (!isPort(port)) {
      return UNKNOWN;
    }
    Queue q = ports[port].queue;
    if (!q.has(place)) {
      return UNKNOWN;
    }
    if (q.isMarker(place)) {
      return -1 - q.flowAt(place);
    }
    return 100 * q.flowAt(place) + q.numberAt(place) % 100;
  }

  public int key(int key, int what) {
    if (!isKey(key)) {
      return UNKNOWN;
    }
    switch (what) {
      case 0:
        return leadOf(key);
      case 1:
        return bitsOf(key, CHOSEN, CARRIES);
      case 2:
        return bitsOf(key, SPARE, SPARE);
      case 3:
        return bitsOf(key, CARRIES, CARRIES);
      default:
        return OUTSIDE;
    }
  }

  // ---- flows

  public int way(int flow) {
    return isFlow(flow) ? wayOf(flow) : UNKNOWN;
  }

  public int send(int flow) {
    if (!isFlow(flow)) {
      return UNKNOWN;
    }
    if (portCount == 0) {
      return STATE;
    }
    Flow sender = flows[flow];
    sender.sent++;
    if (sender.moving) {
      return sender.hold(sender.sent) ? HELD : LOST;
    }
    int to = wayOf(flow);
    if (to == NONE) {
      sender.lost++;
      return LOST;
    }
    if (sender.on != to && hasLettersBehind(flow)) {
      startMoving(flow);
      return sender.hold(sender.sent) ? HELD : LOST;
    }
    sender.on = to;
    return putLetter(flow, sender.sent, to) ? IN_QUEUE : LOST;
  }

  public int flow(int flow, int what) {
    if (!isFlow(flow)) {
      return UNKNOWN;
    }
    Flow f = flows[flow];
    switch (what) {
      case 0:
        return f.on;
      case 1:
        return asNumber(f.moving);
      case HELD_OF_FLOW:
        return f.heldCount;
      case SENT_OF_FLOW:
        return f.sent;
      case DELIVERED_OF_FLOW:
        return f.delivered;
      case LOST_OF_FLOW:
        return f.lost;
      case 6:
        return f.latest;
      default:
        return OUTSIDE;
    }
  }

  public int tick(int n) {
    if (n < 1 || n > MOST_TICKS) {
      return OUTSIDE;
    }
    if (portCount == 0) {
      return STATE;
    }
    int before = sumOverFlows(DELIVERED_OF_FLOW);
    for (int i = 0; i < n; i++) {
      passTick();
    }
    return sumOverFlows(DELIVERED_OF_FLOW) - before;
  }

  // ---- what is told of all

  public int count(int what) {
    switch (what) {
      case 0:
        return portCount;
      case 1:
        return page.size;
      case 2:
        return width;
      case 3:
        return waitTicks;
      case 4:
        return shift;
      case 5:
        return ticks;
      case 6:
        return sumOverFlows(SENT_OF_FLOW);
      case 7:
        return sumOverFlows(DELIVERED_OF_FLOW);
      case 8:
        return sumOverFlows(LOST_OF_FLOW);
      case 9:
        return sumOverFlows(HELD_OF_FLOW);
      case 10:
        return answered;
      case 11:
        return boardsRead;
      default:
        return OUTSIDE;
    }
  }

  public long digest() {
    long h = DIGEST_AT_FIRST;
    for (int i = 0; i < portCount; i++) {
      h = digestPort(h, i);
    }
    for (int k = 0; k < KEYS; k++) {
      for (int what = 0; what <= 3; what++) {
        h = mix(h, key(k, what));
      }
    }
    for (int f = 0; f < FLOWS; f++) {
      h = mix(h, way(f));
      for (int what = 0; what <= 6; what++) {
        h = mix(h, flow(f, what));
      }
    }
    for (int i = 0; i < page.size; i++) {
      h = mix(h, page.codeAt(i));
    }
    for (int what = 0; what <= 11; what++) {
      h = mix(h, count(what));
    }
    return h;
  }

  private long digestPort(long start, int port) {
    long h = start;
    for (int what = 0; what <= 9; what++) {
      h = mix(h, of(port, what));
    }
    int size = of(port, 9);
    for (int place = 0; place < size; place++) {
      h = mix(h, queue(port, place));
    }
    return h;
  }

  private static long mix(long h, long number) {
    return DIGEST_FACTOR * h + number;
  }

  private static int asNumber(boolean is) {
    return is ? 1 : 0;
  }

  private boolean isPort(int port) {
    return port >= 0 && port < portCount && port < MOST_PORTS;
  }

  private static boolean isKey(int key) {
    return key >= 0 && key < KEYS;
  }

  private static boolean isFlow(int flow) {
    return flow >= 0 && flow < FLOWS;
  }

  private int changeWidth(int v) {
    if (v < 1 || v > MOST_PORTS) {
      return OUTSIDE;
    }
    int was = width;
    width = v;
    chooseAll();
    return was;
  }

  private int changeWait(int v) {
    if (v < 0 || v > MOST_WAIT) {
      return OUTSIDE;
    }
    int was = waitTicks;
    waitTicks = v;
    return was;
  }

  private int changeShift(int v) {
    if (v < 0 || v > MOST_SHIFT) {
      return OUTSIDE;
    }
    int was = shift;
    shift = v;
    return was;
  }

  /**
   * Every change that may alter who is CHOSEN ends here, once for the whole change, so that WAITED
   * is lost at once by a PORT that is no more CHOSEN, and by no other.
   */
  private void chooseAll() {
    for (int k = 0; k < KEYS; k++) {
      chooseOfKey(k);
    }
  }

  private void chooseOfKey(int key) {
    int lead = leadOf(key);
    for (int i = 0; i < portCount; i++) {
      if (ports[i].key == key) {
        ports[i].choice = choiceOf(i, lead);
        if (ports[i].choice != CHOSEN) {
          ports[i].waited = 0;
        }
      }
    }
  }

  private int choiceOf(int port, int lead) {
    if (!isPort(lead) || !ports[port].isAlike(ports[lead])) {
      return APART;
    }
    int ahead = 0;
    for (int i = 0; i < portCount; i++) {
      if (ports[i].isAlike(ports[lead]) && isAhead(i, port)) {
        ahead++;
      }
    }
    return ahead < width ? CHOSEN : SPARE;
  }

  private int leadOf(int key) {
    int lead = NONE;
    for (int i = 0; i < portCount; i++) {
      if (ports[i].key == key && ports[i].heard && (lead == NONE || isAhead(i, lead))) {
        lead = i;
      }
    }
    return lead;
  }

  private boolean isAhead(int one, int other) {
    if (ports[one].rank != ports[other].rank) {
      return ports[one].rank < ports[other].rank;
    }
    return one < other;
  }

  private int howItIs(Port p) {
    if (p.choice != CHOSEN || p.waited < waitTicks) {
      return p.choice;
    }
    return p.ready ? CARRIES : ATTACHED;
  }

  private boolean carries(Port p) {
    return howItIs(p) == CARRIES;
  }

  private int bitsOf(int key, int least, int most) {
    int bits = 0;
    for (int i = 0; i < portCount; i++) {
      int how = howItIs(ports[i]);
      if (ports[i].key == key && how >= least && how <= most) {
        bits |= 1 << i;
      }
    }
    return bits;
  }

  private int wayOf(int flow) {
    int carrying = bitsOf(flow % KEYS, CARRIES, CARRIES);
    int many = Integer.bitCount(carrying);
    if (many == 0) {
      return NONE;
    }
    int ahead = (flow / KEYS + shift) % many;
    for (int i = 0; i < portCount; i++) {
      if ((carrying & (1 << i)) != 0) {
        if (ahead == 0) {
          return i;
        }
        ahead--;
      }
    }
    return NONE;
  }

  private boolean hasLettersBehind(int flow) {
    int on = flows[flow].on;
    return isPort(on) && ports[on].queue.hasLetterOf(flow);
  }

  private void startMoving(int flow) {
    int on = flows[flow].on;
    if (isPort(on)) {
      ports[on].queue.appendMarker(flow);
      flows[flow].moving = true;
    }
  }

  private boolean putLetter(int flow, int number, int to) {
    if (isPort(to) && ports[to].queue.size < QUEUE_LIMIT) {
      ports[to].queue.append(flow, number);
      return true;
    }
    flows[flow].lost++;
    return false;
  }

  private void answerMarker(int flow) {
    Flow mover = flows[flow];
    answered++;
    mover.moving = false;
    mover.on = wayOf(flow);
    for (int i = 0; i < mover.heldCount; i++) {
      putLetter(flow, mover.held[i], mover.on);
    }
    mover.heldCount = 0;
  }

  /**
   * For a PORT that is DOWN already: as it CARRIES no more, nothing HELD can come into this QUEUE
   * while its MARKERS are ANSWERED.
   */
  private void dropQueue(Queue q) {
    int many = q.size;
    for (int place = 0; place < many; place++) {
      if (!q.isMarker(place)) {
        flows[q.flowAt(place)].lost++;
      }
    }
    for (int place = 0; place < many; place++) {
      if (q.isMarker(place)) {
        answerMarker(q.flowAt(place));
      }
    }
    q.size = 0;
  }

  private void passTick() {
    ticks++;
    for (int i = 0; i < portCount; i++) {
      ports[i].growOlder();
    }
    chooseAll();
    for (int i = 0; i < portCount; i++) {
      if (ports[i].choice == CHOSEN && ports[i].waited < MOST_WAITED) {
        ports[i].waited++;
      }
    }
    for (int i = 0; i < portCount; i++) {
      if (ports[i].up) {
        letFirstOut(ports[i].queue);
      }
    }
  }

  private void letFirstOut(Queue q) {
    if (q.size == 0) {
      return;
    }
    int flow = q.flowAt(0);
    int number = q.numberAt(0);
    boolean marker = q.isMarker(0);
    // It leaves ahead of the answer: what is HELD may come into this same QUEUE.
    q.removeFirst();
    if (marker) {
      answerMarker(flow);
    } else {
      flows[flow].delivered++;
      flows[flow].latest = number;
    }
  }

  private int sumOverFlows(int what) {
    int sum = 0;
    for (int f = 0; f < FLOWS; f++) {
      sum += flow(f, what);
    }
    return sum;
  }

  /** THE PAGE. */
  private static final class Page {
    final int[] codes = new int[MOST_LETTERS_OF_PAGE];
    int size = 0;

    boolean append(int code) {
      if (size >= MOST_LETTERS_OF_PAGE) {
        return false;
      }
      codes[size] = code;
      size++;
      return true;
    }

    int codeAt(int place) {
      return place >= 0 && place < size ? codes[place] : NONE;
    }

    /** A full PAGE ends with the sixth PORT, so no count of PORTS is needed here. */
    int firstWrong() {
      for (int place = 0; place < size; place++) {
        if (!fits(place)) {
          return place;
        }
      }
      return size;
    }

    private boolean fits(int place) {
      int code = codeAt(place);
      switch (place % LETTERS_OF_PORT) {
        case 0:
          return code >= '0' && code < '0' + KEYS;
        case 1:
          return code >= '0' && code <= '0' + MOST_RANK;
        default:
          return code == ',';
      }
    }

    boolean isBoard() {
      return size % LETTERS_OF_PORT == 2 && firstWrong() == size;
    }

    int portsWritten() {
      return (size + 1) / LETTERS_OF_PORT;
    }

    int keyOfPort(int port) {
      return codeAt(LETTERS_OF_PORT * port) - '0';
    }

    int rankOfPort(int port) {
      return codeAt(LETTERS_OF_PORT * port + 1) - '0';
    }
  }

  /** A PORT; what was HEARD at it means something only as long as heard is true. */
  private static final class Port {
    final Queue queue = new Queue();
    int key = 0;
    int rank = 0;
    boolean up = false;
    boolean heard = false;
    int partner = 0;
    int partnerKey = 0;
    boolean ready = false;
    int age = 0;

    /** APART, SPARE or CHOSEN; what is above these depends on WAIT and is asked for anew. */
    int choice = APART;

    int waited = 0;

    void restart(int newKey, int newRank) {
      key = newKey;
      rank = newRank;
      up = false;
      heard = false;
      choice = APART;
      waited = 0;
      queue.size = 0;
    }

    void keepHeard(int newPartner, int newPartnerKey, boolean newReady) {
      heard = true;
      partner = newPartner;
      partnerKey = newPartnerKey;
      ready = newReady;
      age = 0;
    }

    void growOlder() {
      if (heard) {
        age++;
        heard = age < AGE_FORGOTTEN;
      }
    }

    boolean isAlike(Port other) {
      return heard && other.heard && key == other.key
          && partner == other.partner && partnerKey == other.partnerKey;
    }
  }

  /** A QUEUE: rows of flows and numbers, the first one at 0. */
  private static final class Queue {
    /** MARKERS come in however many there are, but of each FLOW there is one at most. */
    private static final int ROOM = QUEUE_LIMIT + FLOWS;

    /** LETTERS have numbers from 1 on. */
    private static final int MARKER = 0;

    final int[] flowRow = new int[ROOM];
    final int[] numberRow = new int[ROOM];
    int size = 0;

    boolean has(int place) {
      return place >= 0 && place < size;
    }

    /** Only what names a FLOW comes in, so that each flowAt() can be used as an index. */
    void append(int flow, int number) {
      if (size < ROOM && isFlow(flow)) {
        flowRow[size] = flow;
        numberRow[size] = number;
        size++;
      }
    }

    void appendMarker(int flow) {
      append(flow, MARKER);
    }

    void removeFirst() {
      for (int place = 1; place < size; place++) {
        flowRow[place - 1] = flowRow[place];
        numberRow[place - 1] = numberRow[place];
      }
      if (size > 0) {
        size--;
      }
    }

    int flowAt(int place) {
      return has(place) ? flowRow[place] : 0;
    }

    int numberAt(int place) {
      return has(place) ? numberRow[place] : MARKER;
    }

    boolean isMarker(int place) {
      return has(place) && numberRow[place] == MARKER;
    }

    boolean hasLetterOf(int flow) {
      for (int place = 0; place < size; place++) {
        if (flowRow[place] == flow && numberRow[place] != MARKER) {
          return true;
        }
      }
      return false;
    }
  }

  /** A FLOW. */
  private static final class Flow {
    /** The numbers of the LETTERS that are HELD, in order. */
    final int[] held = new int[HELD_LIMIT];

    int heldCount = 0;
    int on = NONE;
    boolean moving = false;
    int sent = 0;
    int delivered = 0;
    int lost = 0;
    int latest = 0;

    void restart() {
      heldCount = 0;
      on = NONE;
      moving = false;
      sent = 0;
      delivered = 0;
      lost = 0;
      latest = 0;
    }

    boolean hold(int number) {
      if (heldCount >= HELD_LIMIT) {
        lost++;
        return false;
      }
      held[heldCount] = number;
      heldCount++;
      return true;
    }
  }
}
