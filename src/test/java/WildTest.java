import java.util.Random;

/** No call throws, for any arguments in any state, far behind the 512th call too. */
public final class WildTest {
  private static final int OBJECTS = 40;
  private static final int CALLS = 20000;

  public static void main(String[] args) {
    Check check = new Check();
    for (int seed = 0; seed < OBJECTS; seed++) {
      check.due("calls of run " + seed, run(new Random(seed)), CALLS);
    }
    check.end();
  }

  private static int run(Random random) {
    BoundPorts x = Check.carrying("00,01,02,10,11,25", 2);
    int done = 0;
    for (int i = 0; i < CALLS; i++) {
      call(x, random);
      done++;
    }
    return done;
  }

  private static int any(Random random) {
    int[] edges = {Integer.MIN_VALUE, Integer.MIN_VALUE + 1, -1, 12, 13, 17, 18, Integer.MAX_VALUE};
    int draw = random.nextInt(20);
    return draw < edges.length / 4 ? edges[random.nextInt(edges.length)]
        : draw < 4 ? random.nextInt() : random.nextInt(12);
  }

  private static void call(BoundPorts x, Random random) {
    int a = any(random);
    int b = any(random);
    switch (random.nextInt(20)) {
      case 0 -> x.letter(random.nextInt(3) == 0 ? ',' : '0' + a);
      case 1 -> x.fault();
      case 2 -> readNowAndThen(x, random);
      case 3 -> x.set(a, b);
      case 4 -> x.rank(a, b);
      case 5 -> x.up(a, random.nextInt(4) != 0);
      case 6, 7, 8 -> x.hear(a, 1 + random.nextInt(2), 0, random.nextInt(4) != 0);
      case 9 -> x.hear(a, b, any(random), true);
      case 10 -> x.of(a, b);
      case 11 -> x.queue(a, b);
      case 12 -> x.key(a, b);
      case 13 -> x.way(a);
      case 14, 15, 16 -> x.send(a);
      case 17 -> x.flow(a, b);
      case 18 -> x.tick(random.nextInt(3) == 0 ? b : 1);
      default -> x.digest();
    }
  }

  private static void readNowAndThen(BoundPorts x, Random random) {
    if (random.nextInt(20) == 0) {
      x.blank();
      Check.type(x, "00,01,02,03,10,15".substring(0, 3 * (1 + random.nextInt(6)) - 1));
    }
    x.board();
  }
}
