/** The boundary cases of promises 10 to 12: of, queue, key. */
public final class EdgesOfPortsTest {
  private static final String SIX = "00,01,02,03,04,05";
  private static final int LEAST = Integer.MIN_VALUE;
  private static final int MOST = Integer.MAX_VALUE;

  public static void main(String[] args) {
    new Edges()
        .of(10, "what = 0 KEY, 1 RANK, 2 whether it is UP (1, 0)", EdgesOfPortsTest::whatIsWritten)
        .of(10, "(3 to 6: NONE: nothing is HEARD)", EdgesOfPortsTest::nothingHeard)
        .of(10, "(of several the greatest)", EdgesOfPortsTest::greatest)
        .of(10, "8 WAITED", EdgesOfPortsTest::waited)
        .of(10, "9 how many are in its QUEUE", EdgesOfPortsTest::emptyAndFullQueue)
        .of(10, "UNKNOWN: port", EdgesOfPortsTest::ofUnknown)
        .of(10, "OUTSIDE: what", EdgesOfPortsTest::ofOutside)
        .of(11, "at a place (from 0)", EdgesOfPortsTest::firstAndLastPlace)
        .of(11, "100 times the FLOW, and the rest of its number by 100",
            EdgesOfPortsTest::numbersWrapAround)
        .of(11, "of a MARKER 0 less 1 less its FLOW", EdgesOfPortsTest::markers)
        .of(11, "UNKNOWN: port, place (there is none)", EdgesOfPortsTest::queueUnknown)
        .of(12, "what = 0 LEAD (NONE)", EdgesOfPortsTest::leadOfEachKey)
        .of(12, "1 PORTS that are CHOSEN, 2 SPARE, 3 that CARRY, as bits", EdgesOfPortsTest::bits)
        .of(12, "UNKNOWN: key (0 to 3)", EdgesOfPortsTest::keyUnknown)
        .of(12, "OUTSIDE: what", EdgesOfPortsTest::keyOutside)
        .end(10, 12);
  }

  private static void whatIsWritten(Check check) {
    BoundPorts x = Check.withBoard("00,11,22,33,09,39");
    int[] keys = {0, 1, 2, 3, 0, 3};
    int[] ranks = {0, 1, 2, 3, 9, 9};
    x.up(5, true);
    for (int port = 0; port < 6; port++) {
      check.due("KEY", x.of(port, 0), keys[port]);
      check.due("RANK", x.of(port, 1), ranks[port]);
      check.due("UP", x.of(port, 2), port == 5 ? 1 : 0);
    }
  }

  private static void nothingHeard(Check check) {
    BoundPorts x = Check.withBoard("00");
    allNone(check, x, "DOWN");
    x.up(0, true);
    allNone(check, x, "UP");
    x.hear(0, 1, 0, false);
    int[] due = {1, 0, 0, 0};
    for (int what = 3; what <= 6; what++) {
      check.due("the least that is HEARD", x.of(0, what), due[what - 3]);
    }
    x.tick(4);
    allNone(check, x, "forgotten");
    x.hear(0, 1, 0, true);
    x.up(0, false);
    allNone(check, x, "DOWN again");
  }

  private static void allNone(Check check, BoundPorts x, String when) {
    for (int what = 3; what <= 6; what++) {
      check.due(when + ": of(0, " + what + ")", x.of(0, what), BoundPorts.NONE);
    }
  }

  private static void greatest(Check check) {
    BoundPorts x = Check.withBoard("00,01,02");
    x.set(0, 1);
    check.due("DOWN", x.of(0, 7), 0);
    x.up(0, true);
    check.due("UP", x.of(0, 7), 0);
    x.hear(0, 1, 0, true);
    check.due("CHOSEN and READY", x.of(0, 7), 2);
    x.set(1, 0);
    check.due("it CARRIES, is ATTACHED and CHOSEN", x.of(0, 7), 4);
    x.hear(0, 1, 0, false);
    check.due("ATTACHED and CHOSEN", x.of(0, 7), 3);
    x.up(1, true);
    x.hear(1, 1, 0, true);
    check.due("SPARE, for WAIT 0 too", x.of(1, 7), 1);
    x.up(2, true);
    x.hear(2, 2, 0, true);
    check.due("HEARD, not ALIKE", x.of(2, 7), 0);
  }

  private static void waited(Check check) {
    BoundPorts x = Check.carrying("00", 1);
    check.due("CHOSEN for no TICK yet", x.of(0, 8), 0);
    for (int i = 0; i < 4; i++) {
      x.hear(0, 1, 0, true);
      x.tick(3);
      check.due("WAITED", x.of(0, 8), Math.min(3 * i + 3, 9));
    }
    x.tick(1);
    check.due("forgotten", x.of(0, 8), 0);
    x.tick(1);
    check.due("and not CHOSEN", x.of(0, 8), 0);
  }

  private static void emptyAndFullQueue(Check check) {
    BoundPorts x = Check.carrying(SIX, 1);
    for (int many = 0; many <= 8; many++) {
      check.due("LETTERS", x.of(0, 9), many);
      x.send(0);
    }
    check.due("the ninth is not there", x.of(0, 9), 8);
    x.rank(0, 9);
    x.send(0);
    check.due("with a MARKER", x.of(0, 9), 9);
    x.tick(50);
    check.due("empty again", x.of(0, 9), 0);
  }

  private static void ofUnknown(Check check) {
    BoundPorts none = new BoundPorts();
    BoundPorts one = Check.carrying("05", 1);
    BoundPorts six = Check.carrying(SIX, 6);
    int[] unknown = {-1, 6, 7, LEAST, MOST};
    for (int port : unknown) {
      check.refused(none, "of(" + port + "), no BOARD", BoundPorts.UNKNOWN, () -> none.of(port, 0));
      check.refused(one, "of(" + port + ") of one", BoundPorts.UNKNOWN, () -> one.of(port, 9));
      check.refused(six, "of(" + port + ") of six", BoundPorts.UNKNOWN, () -> six.of(port, 0));
    }
    check.due("of(0), no BOARD", none.of(0, 0), BoundPorts.UNKNOWN);
    for (int port = 1; port <= 5; port++) {
      check.due("of(" + port + ") of one", one.of(port, 0), BoundPorts.UNKNOWN);
    }
    check.due("of(5) of six", six.of(5, 1), 5);
  }

  private static void ofOutside(Check check) {
    BoundPorts x = Check.carrying("00,01", 2);
    int[] outside = {-1, 10, LEAST, MOST};
    for (int what : outside) {
      check.refused(x, "of(0, " + what + ")", BoundPorts.OUTSIDE, () -> x.of(0, what));
      check.refused(x, "of(1, " + what + ")", BoundPorts.OUTSIDE, () -> x.of(1, what));
    }
  }

  private static void firstAndLastPlace(Check check) {
    BoundPorts x = Check.carrying("00", 1);
    check.due("an empty QUEUE", x.queue(0, 0), BoundPorts.UNKNOWN);
    x.send(0);
    check.due("the only place", x.queue(0, 0), 1);
    check.due("behind it", x.queue(0, 1), BoundPorts.UNKNOWN);
    Check.send(x, 0, 7);
    check.due("the last place of a full QUEUE", x.queue(0, 7), 8);
    check.due("behind it", x.queue(0, 8), BoundPorts.UNKNOWN);
    x.tick(1);
    check.due("the first place", x.queue(0, 0), 2);
    check.due("the last place was left", x.queue(0, 7), BoundPorts.UNKNOWN);
  }

  /** Without a WAY a LETTER is LOST, but has its number all the same. */
  private static void numbersWrapAround(Check check) {
    int[] numbers = {1, 99, 100, 101, 199, 200, 201, 400};
    for (int number : numbers) {
      BoundPorts x = Check.withBoard("30");
      x.set(1, 0);
      Check.send(x, 11, number - 1);
      Check.hearAll(x);
      check.due("send()", x.send(11), 0);
      check.due("queue()", x.queue(0, 0), 1100 + number % 100);
      check.due("sent", x.flow(11, 3), number);
      x.tick(1);
      check.due("latest", x.flow(11, 6), number);
    }
    BoundPorts zero = Check.withBoard("00");
    zero.set(1, 0);
    Check.send(zero, 0, 99);
    Check.hearAll(zero);
    zero.send(0);
    check.due("number 100 of FLOW 0", zero.queue(0, 0), 0);
    zero.set(1, 9);
    check.due("it is a LETTER all the same", zero.tick(1), 1);
  }

  private static void markers(Check check) {
    int[] flows = {0, 3, 8, 11};
    for (int flow : flows) {
      String key = String.valueOf(flow % 4);
      BoundPorts x = Check.carrying(key + "0," + key + "1", 1);
      x.send(flow);
      x.rank(0, 9);
      x.send(flow);
      check.due("MARKER of " + flow, x.queue(0, 1), -1 - flow);
      x.tick(1);
      check.due("MARKER of " + flow + ", the first", x.queue(0, 0), -1 - flow);
      check.due("no LETTER", x.tick(1), 1);
      check.due("it is gone", x.queue(0, 0), BoundPorts.UNKNOWN);
    }
  }

  private static void queueUnknown(Check check) {
    BoundPorts x = Check.carrying("00,01", 2);
    Check.send(x, 0, 2);
    int[] unknown = {-1, 2, 3, 5, 6, 8, 20, LEAST, MOST};
    for (int u : unknown) {
      check.refused(x, "queue(0, " + u + ")", BoundPorts.UNKNOWN, () -> x.queue(0, u));
      check.refused(x, "queue(" + u + ", 0)", BoundPorts.UNKNOWN, () -> x.queue(u, 0));
    }
    check.refused(x, "queue(1, 0)", BoundPorts.UNKNOWN, () -> x.queue(1, 0));
    BoundPorts none = new BoundPorts();
    check.refused(none, "queue(0, 0), no BOARD", BoundPorts.UNKNOWN, () -> none.queue(0, 0));
  }

  private static void leadOfEachKey(Check check) {
    BoundPorts x = Check.withBoard("30,20,10,00,35,05");
    for (int key = 0; key <= 3; key++) {
      check.due("none of " + key, x.key(key, 0), BoundPorts.NONE);
    }
    Check.hearAll(x);
    for (int key = 0; key <= 3; key++) {
      check.due("LEAD of " + key, x.key(key, 0), 3 - key);
    }
    x.up(0, false);
    check.due("another LEAD of 3", x.key(3, 0), 4);
    x.up(4, false);
    check.due("none of 3", x.key(3, 0), BoundPorts.NONE);
  }

  private static void bits(Check check) {
    BoundPorts x = Check.carrying(SIX, 6);
    check.due("all six CHOSEN", x.key(0, 1), 63);
    check.due("none SPARE", x.key(0, 2), 0);
    check.due("all six CARRY", x.key(0, 3), 63);
    x.set(0, 1);
    check.due("one CHOSEN", x.key(0, 1), 1);
    check.due("five SPARE", x.key(0, 2), 62);
    x.rank(5, 0);
    x.rank(0, 9);
    check.due("the last one CHOSEN", x.key(0, 1), 32);
    check.due("the last one CARRIES", x.key(0, 3), 32);
    x.hear(5, 1, 0, false);
    check.due("not READY", x.key(0, 3), 0);
    check.due("another KEY", x.key(3, 1), 0);
  }

  private static void keyUnknown(Check check) {
    BoundPorts none = new BoundPorts();
    BoundPorts x = Check.carrying("00,31", 2);
    int[] unknown = {-1, 4, LEAST, MOST};
    for (int key : unknown) {
      check.refused(none, "key(" + key + ")", BoundPorts.UNKNOWN, () -> none.key(key, 0));
      check.refused(x, "key(" + key + ")", BoundPorts.UNKNOWN, () -> x.key(key, 3));
    }
    check.due("key(3)", x.key(3, 1), 2);
    check.due("key(0)", x.key(0, 1), 1);
  }

  private static void keyOutside(Check check) {
    BoundPorts none = new BoundPorts();
    BoundPorts x = Check.carrying("00,31", 2);
    int[] outside = {-1, 4, LEAST, MOST};
    for (int what : outside) {
      check.refused(none, "key(0, " + what + ")", BoundPorts.OUTSIDE, () -> none.key(0, what));
      check.refused(x, "key(3, " + what + ")", BoundPorts.OUTSIDE, () -> x.key(3, what));
    }
  }
}
