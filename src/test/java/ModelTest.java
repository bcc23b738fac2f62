import java.util.Random;

/** Long runs of calls, drawn by fixed seeds, on the program and on the model side by side. */
public final class ModelTest {
  private static final int RUNS = 600;
  private static final int CALLS = 190;

  private final Random random;
  private final Check check;
  private final BoundPorts x = new BoundPorts();
  private final Model model = new Model();
  private final int wildness;
  private final int[] latest = new int[12];

  private ModelTest(long seed, Check check) {
    this.random = new Random(seed);
    this.check = check;
    this.wildness = seed % 3 == 0 ? 10 : 60;
  }

  public static void main(String[] args) {
    Check check = new Check();
    for (int seed = 0; seed < RUNS; seed++) {
      new ModelTest(seed, check).run(seed);
    }
    check.end();
  }

  private void run(int seed) {
    typeBoard();
    for (int i = 0; i < CALLS; i++) {
      String name = "run " + seed + ", call " + i + ": ";
      oneCall(name);
      check.due(name + "digest()", x.digest(), model.digest());
      check.due(name + "every LETTER is somewhere", model.isWhole() ? 1 : 0, 1);
      checkOrder(name);
    }
  }

  private void checkOrder(String name) {
    if (model.count(5) == 0) {
      java.util.Arrays.fill(latest, 0);
    }
    for (int flow = 0; flow < 12; flow++) {
      int now = model.flow(flow, 6);
      check.due(name + "order of flow " + flow, now >= latest[flow] ? 1 : 0, 1);
      latest[flow] = now;
    }
  }

  private void typeBoard() {
    blank();
    int ports = 1 + random.nextInt(6);
    int keys = 1 + random.nextInt(2);
    for (int port = 0; port < ports; port++) {
      if (port > 0) {
        letter(',');
      }
      letter('0' + random.nextInt(keys));
      letter('0' + random.nextInt(4));
    }
    check.due("board()", x.board(), model.board());
  }

  private void blank() {
    check.due("blank()", x.blank(), model.blank());
  }

  private void letter(int code) {
    check.due("letter(" + code + ")", x.letter(code), model.letter(code));
  }

  /** Mostly within what is told, now and then just or far beside it. */
  private int some(int least, int most) {
    if (random.nextInt(wildness) == 0) {
      int[] beside = {least - 1, most + 1, Integer.MIN_VALUE, Integer.MAX_VALUE};
      return beside[random.nextInt(beside.length)];
    }
    return least + random.nextInt(most - least + 1);
  }

  private int port() {
    return some(0, Math.max(0, model.count(0) - 1));
  }

  private void oneCall(String name) {
    int draw = random.nextInt(100);
    if (draw < 25) {
      int port = port();
      int partner = random.nextInt(6) == 0 ? some(1, 9) : 1;
      int key = random.nextInt(6) == 0 ? some(0, 3) : 0;
      boolean ready = random.nextInt(5) != 0;
      check.due(name + "hear(" + port + ", " + partner + ", " + key + ", " + ready + ")",
          x.hear(port, partner, key, ready), model.hear(port, partner, key, ready));
    } else if (draw < 60) {
      int flow = random.nextInt(3) == 0 ? some(0, 11) : 4 * random.nextInt(3);
      check.due(name + "send(" + flow + ")", x.send(flow), model.send(flow));
    } else if (draw < 70) {
      int n = random.nextInt(12) == 0 ? some(1, 50) : 1 + random.nextInt(2);
      check.due(name + "tick(" + n + ")", x.tick(n), model.tick(n));
    } else if (draw < 80) {
      int port = port();
      boolean is = random.nextInt(4) != 0;
      check.due(name + "up(" + port + ", " + is + ")", x.up(port, is), model.up(port, is));
    } else if (draw < 86) {
      int port = port();
      int v = random.nextInt(3) == 0 ? some(0, 9) : some(0, 3);
      check.due(name + "rank(" + port + ", " + v + ")", x.rank(port, v), model.rank(port, v));
    } else if (draw < 94) {
      setting(name);
    } else if (draw < 98) {
      question(name);
    } else {
      text(name);
    }
  }

  private void setting(String name) {
    int what = random.nextInt(3) == 0 ? some(0, 2) : 2;
    int v = what == 1 ? some(0, random.nextInt(4) == 0 ? 9 : 2) : what == 0 ? some(1, 6) : some(0, 9);
    check.due(name + "set(" + what + ", " + v + ")", x.set(what, v), model.set(what, v));
  }

  private void question(String name) {
    int port = port();
    int ten = some(0, 10);
    int key = some(0, 3);
    int flow = some(0, 11);
    check.due(name + "of(" + port + ", " + ten + ")", x.of(port, ten), model.of(port, ten));
    check.due(name + "queue(" + port + ", " + ten + ")", x.queue(port, ten), model.queue(port, ten));
    check.due(name + "key(" + key + ", " + ten + ")", x.key(key, ten), model.key(key, ten));
    check.due(name + "way(" + flow + ")", x.way(flow), model.way(flow));
    check.due(name + "flow(" + flow + ", " + ten + ")", x.flow(flow, ten), model.flow(flow, ten));
    check.due(name + "count(" + ten + ")", x.count(ten), model.count(ten));
  }

  private void text(String name) {
    if (random.nextInt(8) == 0) {
      typeBoard();
    } else if (random.nextInt(4) == 0) {
      blank();
    } else {
      String right = "0123456789,";
      letter(random.nextInt(4) == 0 ? some(32, 126) : right.charAt(random.nextInt(right.length())));
    }
    check.due(name + "fault()", x.fault(), model.fault());
    if (random.nextInt(6) == 0) {
      check.due(name + "board()", x.board(), model.board());
    }
  }
}
