/** The boundary cases of promises 6 to 9: set, rank, up, hear. */
public final class EdgesOfToldTest {
  private static final int LEAST = Integer.MIN_VALUE;
  private static final int MOST = Integer.MAX_VALUE;

  public static void main(String[] args) {
    new Edges()
        .of(6, "WIDTH (what = 0), WAIT (1), SHIFT (2) becomes v: what it was",
            EdgesOfToldTest::leastAndMostSettings)
        .of(6, "OUTSIDE: what, v", EdgesOfToldTest::settingsOutside)
        .of(7, "RANK of a PORT becomes v: what it was", EdgesOfToldTest::leastAndMostRank)
        .of(7, "UNKNOWN: port", EdgesOfToldTest::rankOfUnknown)
        .of(7, "OUTSIDE: v (0 to 9)", EdgesOfToldTest::rankOutside)
        .of(8, "A PORT is UP, or DOWN: whether it was UP (1, 0)", EdgesOfToldTest::upAndDownTwice)
        .of(8, "UNKNOWN: port", EdgesOfToldTest::upOfUnknown)
        .of(9, "1 if it CARRIES then, else 0", EdgesOfToldTest::hearAnswers)
        .of(9, "UNKNOWN: port", EdgesOfToldTest::hearAtUnknown)
        .of(9, "OUTSIDE: partner, key", EdgesOfToldTest::hearOutside)
        .of(9, "STATE: it is DOWN", EdgesOfToldTest::hearAtDown)
        .end(6, 9);
  }

  private static void leastAndMostSettings(Check check) {
    int[][] settings = {{2, 1, 6}, {2, 0, 9}, {0, 0, 9}};
    BoundPorts x = new BoundPorts();
    for (int what = 0; what <= 2; what++) {
      int[] s = settings[what];
      check.due("the least: was", x.set(what, s[1]), s[0]);
      check.due("the least: is", x.count(2 + what), s[1]);
      check.due("the most: was", x.set(what, s[2]), s[1]);
      check.due("the most: is", x.count(2 + what), s[2]);
      check.due("the same again", x.set(what, s[2]), s[2]);
    }
    check.due("each is its own", x.count(2) * 100 + x.count(3) * 10 + x.count(4), 699);
  }

  private static void settingsOutside(Check check) {
    BoundPorts x = Check.carrying("00,01", 2);
    int[][] outside = {
      {0, 0}, {0, 7}, {0, -1}, {0, LEAST}, {0, MOST}, {1, -1}, {1, 10}, {1, LEAST}, {1, MOST},
      {2, -1}, {2, 10}, {2, LEAST}, {2, MOST}, {-1, 1}, {3, 1}, {LEAST, 1}, {MOST, 1}, {-1, -1},
      {3, 10}
    };
    for (int[] o : outside) {
      check.refused(x, "set(" + o[0] + ", " + o[1] + ")", BoundPorts.OUTSIDE,
          () -> x.set(o[0], o[1]));
    }
  }

  private static void leastAndMostRank(Check check) {
    BoundPorts x = Check.withBoard("00,01,02,03,04,05");
    check.due("of the first PORT", x.rank(0, 9), 0);
    check.due("of(0, 1)", x.of(0, 1), 9);
    check.due("of the last PORT", x.rank(5, 0), 5);
    check.due("of(5, 1)", x.of(5, 1), 0);
    check.due("again", x.rank(5, 0), 0);
    check.due("back", x.rank(0, 0), 9);
    check.due("those between stay", x.of(4, 1), 4);
  }

  private static void rankOfUnknown(Check check) {
    BoundPorts one = Check.withBoard("05");
    BoundPorts six = Check.withBoard("00,01,02,03,04,05");
    int[] none = {-1, 6, 7, LEAST, MOST};
    for (int port : none) {
      check.refused(one, "rank(" + port + ")", BoundPorts.UNKNOWN, () -> one.rank(port, 0));
      check.refused(six, "rank(" + port + ")", BoundPorts.UNKNOWN, () -> six.rank(port, 0));
    }
    for (int port = 1; port <= 5; port++) {
      int behind = port;
      check.refused(one, "rank(" + port + ")", BoundPorts.UNKNOWN, () -> one.rank(behind, 0));
    }
  }

  private static void rankOutside(Check check) {
    BoundPorts x = Check.carrying("00,01", 1);
    int[] outside = {-1, 10, LEAST, MOST};
    for (int v : outside) {
      check.refused(x, "rank(0, " + v + ")", BoundPorts.OUTSIDE, () -> x.rank(0, v));
      check.refused(x, "rank(1, " + v + ")", BoundPorts.OUTSIDE, () -> x.rank(1, v));
    }
  }

  private static void upAndDownTwice(Check check) {
    BoundPorts x = Check.withBoard("00,01");
    check.unchanged(x, "DOWN, while it is DOWN", 0, () -> x.up(0, false));
    check.due("UP", x.up(0, true), 0);
    check.unchanged(x, "UP, while it is UP", 1, () -> x.up(0, true));
    x.set(1, 0);
    Check.hearAll(x);
    Check.send(x, 0, 3);
    x.set(2, 1);
    Check.send(x, 0, 2);
    x.tick(1);
    check.unchanged(x, "UP, while it is busy", 1, () -> x.up(0, true));
    check.due("DOWN", x.up(0, false), 1);
    check.unchanged(x, "DOWN, once more", 0, () -> x.up(0, false));
    check.due("the other one is UP", x.of(1, 2), 1);
    check.due("UP, once more", x.up(0, true), 0);
    check.due("with an empty QUEUE", x.of(0, 9), 0);
  }

  private static void upOfUnknown(Check check) {
    BoundPorts one = Check.carrying("05", 1);
    BoundPorts six = Check.carrying("00,01,02,03,04,05", 6);
    int[] none = {-1, 6, 7, LEAST, MOST};
    for (int port : none) {
      check.refused(one, "up(" + port + ", true)", BoundPorts.UNKNOWN, () -> one.up(port, true));
      check.refused(six, "up(" + port + ", false)", BoundPorts.UNKNOWN, () -> six.up(port, false));
    }
    for (int port = 1; port <= 5; port++) {
      int behind = port;
      check.refused(one, "up(" + port + ", true)", BoundPorts.UNKNOWN, () -> one.up(behind, true));
    }
    check.due("the last PORT", six.up(5, false), 1);
  }

  private static void hearAnswers(Check check) {
    BoundPorts x = Check.withBoard("00,01");
    x.set(0, 1);
    x.up(0, true);
    x.up(1, true);
    check.due("CHOSEN", x.hear(1, 1, 0, true), 0);
    x.tick(1);
    check.due("CHOSEN, one TICK less than WAIT", x.hear(1, 1, 0, true), 0);
    x.tick(1);
    check.due("ATTACHED", x.hear(1, 1, 0, false), 0);
    check.due("it CARRIES", x.hear(1, 1, 0, true), 1);
    check.due("another one, CHOSEN", x.hear(0, 1, 0, true), 0);
    check.due("SPARE, though it CARRIED", x.hear(1, 1, 0, true), 0);
    x.set(1, 0);
    check.due("by WAIT 0", x.hear(0, 1, 0, true), 1);
    check.due("none of these", x.hear(1, 2, 0, true), 0);
    check.due("the LEAD with another PARTNER", x.hear(0, 9, 3, true), 1);
  }

  private static void hearAtUnknown(Check check) {
    BoundPorts one = Check.carrying("05", 1);
    BoundPorts six = Check.carrying("00,01,02,03,04,05", 6);
    int[] none = {-1, 6, 7, LEAST, MOST};
    for (int port : none) {
      check.refused(one, "hear(" + port + ")", BoundPorts.UNKNOWN, () -> one.hear(port, 2, 1, true));
      check.refused(six, "hear(" + port + ")", BoundPorts.UNKNOWN, () -> six.hear(port, 2, 1, true));
    }
    for (int port = 1; port <= 5; port++) {
      int behind = port;
      check.refused(one, "hear(" + port + ")", BoundPorts.UNKNOWN,
          () -> one.hear(behind, 2, 1, true));
    }
    check.due("the last PORT", six.hear(5, 1, 0, true), 1);
  }

  private static void hearOutside(Check check) {
    BoundPorts x = Check.carrying("00,01", 2);
    x.tick(1);
    int[] partners = {0, 10, -1, LEAST, MOST};
    for (int partner : partners) {
      check.refused(x, "PARTNER " + partner, BoundPorts.OUTSIDE, () -> x.hear(0, partner, 0, true));
    }
    int[] keys = {-1, 4, LEAST, MOST};
    for (int key : keys) {
      check.refused(x, "KEY " + key, BoundPorts.OUTSIDE, () -> x.hear(0, 1, key, false));
    }
    check.due("AGE was not touched", x.of(0, 6), 1);
    check.due("the least", x.hear(0, 1, 0, true), 1);
    check.due("the most", x.hear(0, 9, 3, true), 1);
  }

  private static void hearAtDown(Check check) {
    BoundPorts x = Check.withBoard("00,01");
    check.refused(x, "DOWN at first", BoundPorts.STATE, () -> x.hear(0, 1, 0, true));
    x.up(0, true);
    check.refused(x, "the other one is DOWN yet", BoundPorts.STATE, () -> x.hear(1, 1, 0, true));
    check.due("UP", x.hear(0, 1, 0, true), 0);
    x.up(0, false);
    check.refused(x, "DOWN again", BoundPorts.STATE, () -> x.hear(0, 1, 0, true));
  }
}
