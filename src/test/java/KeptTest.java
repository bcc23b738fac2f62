import java.util.Random;

/**
 * What the terms of the document keep in every state, whatever was called: asked of the class alone,
 * without the model, so that a fault which both share is found too.
 */
public final class KeptTest {
  private static final int RUNS = 300;
  private static final int CALLS = 150;
  private static final int FLOWS = 12;

  private final Check check;
  private final Random random;
  private final BoundPorts x;
  private final int[] latest = new int[FLOWS];
  private int moves = 0;

  private KeptTest(Check check, int seed) {
    this.check = check;
    this.random = new Random(seed);
    this.x = Check.carrying(seed % 2 == 0 ? "00,01,02" : "00,10,01,11,02,32", 1 + seed % 3);
  }

  public static void main(String[] args) {
    Check check = new Check();
    int moves = 0;
    for (int seed = 0; seed < RUNS; seed++) {
      KeptTest test = new KeptTest(check, seed);
      for (int i = 0; i < CALLS; i++) {
        check.under("run " + seed + ", call " + i);
        test.call();
        test.look();
      }
      moves += test.moves;
    }
    check.under("all");
    check.due("MARKERS were ANSWERED in many runs", moves > RUNS ? 1 : 0, 1);
    check.end();
  }

  /** One TICK a call, so that what goes out is seen one by one. */
  private void call() {
    int ports = x.count(0);
    int port = random.nextInt(ports);
    int draw = random.nextInt(40);
    if (draw < 16) {
      x.send(random.nextInt(4) == 0 ? random.nextInt(FLOWS) : 4 * random.nextInt(3));
    } else if (draw < 26) {
      x.hear(port, 1 + random.nextInt(12) / 11, random.nextInt(12) / 11, random.nextInt(8) != 0);
    } else if (draw < 32) {
      tickOnce();
    } else if (draw < 36) {
      x.set(2, random.nextInt(10));
    } else if (draw < 37) {
      x.set(0, 1 + random.nextInt(3));
    } else if (draw < 38) {
      x.set(1, random.nextInt(3));
    } else if (draw < 39) {
      x.rank(port, random.nextInt(4));
    } else {
      comeUpAgain(port);
    }
    moves = x.count(10);
  }

  private void comeUpAgain(int port) {
    x.up(port, false);
    look();
    x.up(port, random.nextInt(4) != 0);
  }

  private void tickOnce() {
    int[] before = new int[FLOWS];
    for (int flow = 0; flow < FLOWS; flow++) {
      before[flow] = x.flow(flow, 4);
    }
    int sum = 0;
    int told = x.tick(1);
    for (int flow = 0; flow < FLOWS; flow++) {
      int more = x.flow(flow, 4) - before[flow];
      int now = x.flow(flow, 6);
      keep("the number of flow " + flow + " grows as it is DELIVERED", now >= latest[flow] + more);
      keep("the number of flow " + flow + " stays else", more > 0 || now == latest[flow]);
      latest[flow] = now;
      sum += more;
    }
    check.due("what tick() told", told, sum);
  }

  private void look() {
    for (int key = 0; key < 4; key++) {
      lookAtKey(key);
    }
    for (int port = 0; port < x.count(0); port++) {
      lookAtPort(port);
    }
    for (int flow = 0; flow < FLOWS; flow++) {
      lookAtFlow(flow);
    }
    for (int what = 6; what <= 9; what++) {
      check.due("count(" + what + ")", x.count(what), sum(what));
    }
  }

  private int sum(int what) {
    int[] ofFlow = {3, 4, 5, 2};
    int sum = 0;
    for (int flow = 0; flow < FLOWS; flow++) {
      sum += x.flow(flow, ofFlow[what - 6]);
    }
    return sum;
  }

  private void lookAtKey(int key) {
    String name = " of key " + key;
    int lead = x.key(key, 0);
    int chosen = x.key(key, 1);
    int spare = x.key(key, 2);
    int carry = x.key(key, 3);
    keep("LEAD is CHOSEN, or there is none" + name, lead == -1 ? chosen == 0 : (chosen >> lead & 1) == 1);
    keep("no PORT is CHOSEN and SPARE" + name, (chosen & spare) == 0);
    keep("what CARRIES is CHOSEN" + name, (carry & ~chosen) == 0);
    keep("no more than WIDTH" + name, Integer.bitCount(chosen) <= x.count(2));
    keep("SPARE only behind WIDTH" + name, spare == 0 || Integer.bitCount(chosen) == x.count(2));
    for (int port = 0; port < x.count(0); port++) {
      if (((chosen | spare) >> port & 1) == 1) {
        check.due("KEY of " + port + name, x.of(port, 0), key);
        check.due("PARTNER of " + port + name, x.of(port, 3), x.of(lead, 3));
        check.due("PARTNER's KEY of " + port + name, x.of(port, 4), x.of(lead, 4));
      }
    }
  }

  private void lookAtPort(int port) {
    String name = " of port " + port;
    int how = x.of(port, 7);
    int waited = x.of(port, 8);
    int bit = 1 << port;
    int key = x.of(port, 0);
    boolean heard = x.of(port, 3) != -1;
    keep("how it is, by key()" + name, (how >= 2) == ((x.key(key, 1) & bit) != 0)
        && (how == 1) == ((x.key(key, 2) & bit) != 0) && (how == 4) == ((x.key(key, 3) & bit) != 0));
    keep("WAITED" + name, waited >= 0 && waited <= 9 && (how >= 2 || waited == 0));
    keep("ATTACHED by WAIT" + name, how < 2 || (how >= 3) == (waited >= x.count(3)));
    keep("CARRIES by READY" + name, how < 3 || (how == 4) == (x.of(port, 5) == 1));
    keep("AGE" + name, heard ? x.of(port, 6) >= 0 && x.of(port, 6) <= 3 : x.of(port, 6) == -1);
    keep("HEARD, or LEAD is none" + name, !heard || x.key(key, 0) != -1);
    if (x.of(port, 2) == 0) {
      keep("nothing is HEARD, CHOSEN, in the QUEUE, as it is DOWN" + name,
          !heard && how == 0 && x.of(port, 9) == 0);
    }
    check.due("queue() behind all" + name, x.queue(port, x.of(port, 9)), BoundPorts.UNKNOWN);
  }

  /** No run sends a hundred LETTERS of one FLOW, so queue() tells their whole numbers. */
  private void lookAtFlow(int flow) {
    String name = " of flow " + flow;
    int letters = 0;
    int markers = 0;
    int number = x.flow(flow, 6);
    int on = x.flow(flow, 0);
    for (int port = 0; port < x.count(0); port++) {
      for (int place = 0; place < x.of(port, 9); place++) {
        int item = x.queue(port, place);
        if (item == -1 - flow) {
          markers++;
          check.due("where the MARKER is" + name, port, on);
        } else if (item >= 0 && item / 100 == flow) {
          letters++;
          check.due("where its LETTERS are" + name, port, on);
          keep("its LETTERS are in order" + name, item % 100 > number);
          check.due("MARKERS ahead of a LETTER" + name, markers, 0);
          number = item % 100;
        }
      }
    }
    check.due("MARKERS" + name, markers, x.flow(flow, 1));
    keep("HELD only as it is MOVING" + name, x.flow(flow, 2) <= 8 * x.flow(flow, 1));
    check.due("every LETTER is somewhere" + name,
        letters + x.flow(flow, 2) + x.flow(flow, 4) + x.flow(flow, 5), x.flow(flow, 3));
    keep("no run is too long" + name, x.flow(flow, 3) < 100);
    keep("WAY CARRIES, and there is one if one does" + name, x.way(flow) == -1
        ? x.key(flow % 4, 3) == 0 : (x.key(flow % 4, 3) >> x.way(flow) & 1) == 1);
  }

  private void keep(String what, boolean holds) {
    check.due(what, holds ? 1 : 0, 1);
  }
}
