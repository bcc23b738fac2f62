/** The boundary cases of promises 13 to 16: way, send, flow, tick. */
public final class EdgesOfFlowsTest {
  private static final int LEAST = Integer.MIN_VALUE;
  private static final int MOST = Integer.MAX_VALUE;

  public static void main(String[] args) {
    new Edges()
        .of(13, "WAY; NONE", EdgesOfFlowsTest::wayOrNone)
        .of(13, "UNKNOWN: flow", EdgesOfFlowsTest::wayUnknown)
        .of(14, "0 it is in a QUEUE, 1 it is HELD, 2 it is LOST", EdgesOfFlowsTest::sendAnswers)
        .of(14, "UNKNOWN: flow", EdgesOfFlowsTest::sendUnknown)
        .of(14, "STATE: no BOARD", EdgesOfFlowsTest::sendWithoutBoard)
        .of(15, "what = 0 the PORT ON which it is (NONE)", EdgesOfFlowsTest::onWhich)
        .of(15, "1 whether it is MOVING (1, 0), 2 how many are HELD", EdgesOfFlowsTest::movingAndHeld)
        .of(15, "3 how many were sent, 4 DELIVERED, 5 LOST", EdgesOfFlowsTest::sums)
        .of(15, "6 the number of the latest one that was DELIVERED (0: none)",
            EdgesOfFlowsTest::latest)
        .of(15, "UNKNOWN: flow", EdgesOfFlowsTest::flowUnknown)
        .of(15, "OUTSIDE: what", EdgesOfFlowsTest::flowOutside)
        .of(16, "So many TICKS (1 to 50)", EdgesOfFlowsTest::leastAndMostTicks)
        .of(16, "how many LETTERS were DELIVERED in these", EdgesOfFlowsTest::deliveredInThese)
        .of(16, "OUTSIDE: n", EdgesOfFlowsTest::tickOutside)
        .of(16, "STATE: no BOARD", EdgesOfFlowsTest::tickWithoutBoard)
        .end(13, 16);
  }

  private static void wayOrNone(Check check) {
    BoundPorts none = new BoundPorts();
    BoundPorts x = Check.withBoard("00,10");
    for (int flow = 0; flow <= 11; flow++) {
      check.due("no BOARD", none.way(flow), BoundPorts.NONE);
      check.due("all are DOWN", x.way(flow), BoundPorts.NONE);
    }
    x.set(1, 0);
    Check.hearAll(x);
    for (int flow = 0; flow <= 11; flow++) {
      check.due("way(" + flow + ")", x.way(flow), flow % 4 < 2 ? flow % 4 : BoundPorts.NONE);
    }
    x.send(0);
    x.hear(0, 1, 0, false);
    check.due("none, though it is ON a PORT", x.way(0), BoundPorts.NONE);
  }

  private static void wayUnknown(Check check) {
    BoundPorts none = new BoundPorts();
    BoundPorts x = Check.carrying("00,10,20,30", 1);
    int[] unknown = {-1, 12, -4, 16, LEAST, MOST};
    for (int flow : unknown) {
      check.refused(none, "way(" + flow + ")", BoundPorts.UNKNOWN, () -> none.way(flow));
      check.refused(x, "way(" + flow + ")", BoundPorts.UNKNOWN, () -> x.way(flow));
    }
    check.due("the first FLOW", x.way(0), 0);
    check.due("the last FLOW", x.way(11), 3);
  }

  private static void sendAnswers(Check check) {
    BoundPorts x = Check.carrying("30,31", 2);
    check.due("no WAY", x.send(8), 2);
    for (int i = 0; i < 8; i++) {
      check.due("in a QUEUE", x.send(11), 0);
    }
    check.due("the QUEUE is full", x.send(11), 2);
    x.set(2, 1);
    for (int i = 0; i < 8; i++) {
      check.due("HELD", x.send(11), 1);
    }
    check.due("as many are HELD as can be", x.send(11), 2);
    check.due("sent", x.flow(11, 3), 18);
    check.due("LOST", x.flow(11, 5), 2);
  }

  private static void sendUnknown(Check check) {
    BoundPorts x = Check.carrying("00,10,20,30", 1);
    x.send(0);
    int[] unknown = {-1, 12, -4, 16, LEAST, MOST};
    for (int flow : unknown) {
      check.refused(x, "send(" + flow + ")", BoundPorts.UNKNOWN, () -> x.send(flow));
    }
    check.due("sent", x.count(6), 1);
    check.due("the last FLOW", x.send(11), 0);
  }

  private static void sendWithoutBoard(Check check) {
    BoundPorts x = Check.withPage("00");
    for (int flow = 0; flow <= 11; flow++) {
      int f = flow;
      check.refused(x, "send(" + flow + ")", BoundPorts.STATE, () -> x.send(f));
    }
    x.board();
    check.due("with a BOARD", x.send(0), 2);
    check.due("its number is 1", x.flow(0, 3), 1);
    Check.type(x, "0");
    x.board();
    check.due("a BOARD that was refused leaves the other one", x.send(0), 2);
  }

  private static void onWhich(Check check) {
    BoundPorts x = Check.carrying("10,11,12,13,14,05", 6);
    check.due("on none", x.flow(0, 0), BoundPorts.NONE);
    x.send(0);
    check.due("ON the last PORT", x.flow(0, 0), 5);
    x.send(1);
    check.due("ON the first PORT", x.flow(1, 0), 0);
    x.tick(1);
    check.due("ON it yet, as its LETTER is out", x.flow(1, 0), 0);
    x.up(5, false);
    check.due("ON one that is DOWN", x.flow(0, 0), 5);
    x.send(0);
    check.due("ON it yet, as a LETTER is LOST without a WAY", x.flow(0, 0), 5);
  }

  private static void movingAndHeld(Check check) {
    BoundPorts x = Check.carrying("00,01", 1);
    x.send(0);
    check.due("MOVING", x.flow(0, 1), 0);
    check.due("HELD", x.flow(0, 2), 0);
    x.rank(0, 9);
    check.due("not MOVING till a LETTER is sent", x.flow(0, 1), 0);
    for (int i = 1; i <= 9; i++) {
      x.send(0);
      check.due("MOVING", x.flow(0, 1), 1);
      check.due("HELD", x.flow(0, 2), Math.min(i, 8));
    }
    x.tick(1);
    check.due("MOVING till the MARKER is out", x.flow(0, 1), 1);
    x.tick(1);
    check.due("MOVING", x.flow(0, 1), 0);
    check.due("HELD", x.flow(0, 2), 0);
  }

  private static void sums(Check check) {
    BoundPorts x = Check.carrying("00", 1);
    for (int what = 3; what <= 5; what++) {
      check.due("none yet", x.flow(0, what), 0);
    }
    Check.send(x, 0, 9);
    x.tick(3);
    x.up(0, false);
    check.due("sent", x.flow(0, 3), 9);
    check.due("DELIVERED", x.flow(0, 4), 3);
    check.due("LOST: one by a full QUEUE, five by DOWN", x.flow(0, 5), 6);
    check.due("of another FLOW", x.flow(4, 3), 0);
  }

  private static void latest(Check check) {
    BoundPorts x = Check.carrying("00", 1);
    check.due("none", x.flow(0, 6), 0);
    x.send(0);
    check.due("none is out yet", x.flow(0, 6), 0);
    x.tick(1);
    check.due("the first", x.flow(0, 6), 1);
    x.hear(0, 1, 0, false);
    x.send(0);
    x.hear(0, 1, 0, true);
    x.send(0);
    check.due("the first yet", x.flow(0, 6), 1);
    x.tick(1);
    check.due("the third, as the second was LOST", x.flow(0, 6), 3);
    x.send(0);
    x.up(0, false);
    check.due("a LOST one is not the latest", x.flow(0, 6), 3);
  }

  private static void flowUnknown(Check check) {
    BoundPorts none = new BoundPorts();
    BoundPorts x = Check.carrying("00,01", 2);
    int[] unknown = {-1, 12, LEAST, MOST};
    for (int flow : unknown) {
      check.refused(none, "flow(" + flow + ", 0)", BoundPorts.UNKNOWN, () -> none.flow(flow, 0));
      check.refused(x, "flow(" + flow + ", 6)", BoundPorts.UNKNOWN, () -> x.flow(flow, 6));
    }
    check.due("the last FLOW", x.flow(11, 0), BoundPorts.NONE);
  }

  private static void flowOutside(Check check) {
    BoundPorts none = new BoundPorts();
    BoundPorts x = Check.carrying("00,01", 2);
    int[] outside = {-1, 7, LEAST, MOST};
    for (int what : outside) {
      check.refused(none, "flow(11, " + what + ")", BoundPorts.OUTSIDE, () -> none.flow(11, what));
      check.refused(x, "flow(0, " + what + ")", BoundPorts.OUTSIDE, () -> x.flow(0, what));
    }
  }

  private static void leastAndMostTicks(Check check) {
    BoundPorts x = Check.carrying("00", 1);
    x.tick(1);
    check.due("one", x.count(5), 1);
    check.due("AGE", x.of(0, 6), 1);
    x.tick(50);
    check.due("fifty", x.count(5), 51);
    x.tick(49);
    check.due("forty-nine", x.count(5), 100);
  }

  private static void deliveredInThese(Check check) {
    BoundPorts x = Check.carrying("00,10,20,30", 1);
    check.due("none", x.tick(1), 0);
    for (int flow = 0; flow <= 3; flow++) {
      Check.send(x, flow, 8);
    }
    check.due("one of each PORT", x.tick(1), 4);
    check.due("all the others", x.tick(50), 28);
    check.due("none is left", x.tick(50), 0);
    check.due("DELIVERED", x.count(7), 32);
    Check.hearAll(x);
    x.send(0);
    x.up(0, false);
    check.due("a LOST one is not DELIVERED", x.tick(1), 0);
  }

  private static void tickOutside(Check check) {
    BoundPorts none = new BoundPorts();
    BoundPorts x = Check.carrying("00,01", 2);
    Check.send(x, 0, 3);
    int[] outside = {0, 51, -1, -50, LEAST, MOST};
    for (int n : outside) {
      check.refused(none, "tick(" + n + "), no BOARD", BoundPorts.OUTSIDE, () -> none.tick(n));
      check.refused(x, "tick(" + n + ")", BoundPorts.OUTSIDE, () -> x.tick(n));
    }
    check.due("TICKS", x.count(5), 0);
  }

  private static void tickWithoutBoard(Check check) {
    BoundPorts x = Check.withPage("0");
    x.board();
    check.refused(x, "tick(1)", BoundPorts.STATE, () -> x.tick(1));
    check.refused(x, "tick(50)", BoundPorts.STATE, () -> x.tick(50));
    check.due("TICKS", x.count(5), 0);
    Check.type(x, "0");
    x.board();
    check.due("with a BOARD", x.tick(1), 0);
    check.due("TICKS", x.count(5), 1);
  }
}
