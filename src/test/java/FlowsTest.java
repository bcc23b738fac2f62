/** Promises 13 to 16: way, send, flow, tick. */
public final class FlowsTest {
  public static void main(String[] args) {
    Check check = new Check();
    wayIsSpread(check);
    wayIsShifted(check);
    wayRefuses(check);
    sendWithoutWay(check);
    sendIntoAFullQueue(check);
    sendMovesTheFlow(check);
    sendMovesAtOnceIfNothingIsBehind(check);
    markerComesIntoAFullQueue(check);
    heldAreEightAtMost(check);
    movingHoldsWithoutWay(check);
    sendRefuses(check);
    flowTellsAll(check);
    flowRefuses(check);
    tickForgets(check);
    tickForgetsAllAtOnce(check);
    tickWaits(check);
    tickLetsOneOutOfEach(check);
    tickAnswersByNumber(check);
    answerBackOnTheSamePort(check);
    answerLosesWhatHasNoRoom(check);
    tickLetsOutOfPortsThatCarryNoMore(check);
    tickRefuses(check);
    check.end();
  }

  private static void wayIsSpread(Check check) {
    BoundPorts x = Check.carrying("20,21,00,22", 3);
    check.due("way(2)", x.way(2), 0);
    check.due("way(6)", x.way(6), 1);
    check.due("way(10)", x.way(10), 3);
    check.due("way(0)", x.way(0), 2);
    check.due("way(4)", x.way(4), 2);
    check.due("way(8)", x.way(8), 2);
    check.due("way(1)", x.way(1), BoundPorts.NONE);
    x.hear(1, 1, 0, false);
    check.due("way(6) with two", x.way(6), 3);
    check.due("way(10) with two", x.way(10), 0);
    x.rank(3, 0);
    x.rank(0, 9);
    check.due("by number, not by RANK", x.way(2), 0);
  }

  private static void wayIsShifted(Check check) {
    BoundPorts x = Check.carrying("00,01,02", 3);
    for (int shift = 0; shift <= 9; shift++) {
      x.set(2, shift);
      for (int flow = 0; flow < 12; flow += 4) {
        check.due("way(" + flow + "), SHIFT " + shift, x.way(flow), (flow / 4 + shift) % 3);
      }
    }
  }

  private static void wayRefuses(Check check) {
    BoundPorts x = Check.carrying("00,01", 2);
    int[] wrong = {-1, 12, -4, Integer.MIN_VALUE, Integer.MAX_VALUE};
    for (int w : wrong) {
      check.refused(x, "way(" + w + ")", BoundPorts.UNKNOWN, () -> x.way(w));
    }
    check.due("way(11)", x.way(11), BoundPorts.NONE);
  }

  private static void sendWithoutWay(Check check) {
    BoundPorts x = Check.carrying("00", 1);
    check.due("send(1)", x.send(1), 2);
    check.due("sent", x.flow(1, 3), 1);
    check.due("LOST", x.flow(1, 5), 1);
    check.due("ON", x.flow(1, 0), BoundPorts.NONE);
    x.send(0);
    x.hear(0, 1, 0, false);
    check.due("send(0) as it CARRIES no more", x.send(0), 2);
    check.due("it is ON the PORT still", x.flow(0, 0), 0);
    check.due("not MOVING", x.flow(0, 1), 0);
    x.hear(0, 1, 0, true);
    x.send(0);
    check.due("the number of the next one", x.queue(0, 1), 3);
  }

  private static void sendIntoAFullQueue(Check check) {
    BoundPorts x = Check.carrying("00,01", 1);
    for (int i = 0; i < 8; i++) {
      check.due("send " + i, x.send(i % 2 == 0 ? 0 : 4), 0);
    }
    check.due("the ninth", x.send(0), 2);
    check.due("of another FLOW", x.send(8), 2);
    check.due("it is ON its WAY even so", x.flow(8, 0), 0);
    check.due("in the QUEUE", x.of(0, 9), 8);
    check.due("LOST", x.flow(0, 5), 1);
    check.due("LOST of all", x.count(8), 2);
    x.tick(1);
    check.due("there is room again", x.send(8), 0);
  }

  private static void sendMovesTheFlow(Check check) {
    BoundPorts x = Check.carrying("00,01", 2);
    Check.send(x, 0, 2);
    x.send(8);
    x.set(2, 1);
    check.due("send", x.send(0), 1);
    check.due("MOVING", x.flow(0, 1), 1);
    check.due("ON", x.flow(0, 0), 0);
    check.due("HELD", x.flow(0, 2), 1);
    check.due("MARKER behind all", x.queue(0, 3), -1);
    x.set(2, 0);
    check.due("HELD, though the WAY is the PORT again", x.send(0), 1);
    check.due("one MARKER alone", x.of(0, 9), 4);
    x.set(2, 1);
    check.due("three go out", x.tick(3), 3);
    check.due("MOVING yet", x.flow(0, 1), 1);
    x.hear(0, 1, 0, true);
    x.hear(1, 1, 0, true);
    check.due("the MARKER, and one that was HELD", x.tick(1), 1);
    check.due("MOVING", x.flow(0, 1), 0);
    check.due("ON", x.flow(0, 0), 1);
    check.due("HELD", x.flow(0, 2), 0);
    check.due("latest", x.flow(0, 6), 3);
    check.due("the other one", x.queue(1, 0), 4);
    check.due("ANSWERED", x.count(10), 1);
  }

  private static void sendMovesAtOnceIfNothingIsBehind(Check check) {
    BoundPorts x = Check.carrying("00,01", 2);
    x.send(0);
    x.tick(1);
    x.send(8);
    x.set(2, 1);
    check.due("send", x.send(0), 0);
    check.due("ON", x.flow(0, 0), 1);
    check.due("in the QUEUE there", x.queue(1, 0), 2);
    check.due("the other FLOW's QUEUE", x.of(0, 9), 1);
  }

  private static void markerComesIntoAFullQueue(Check check) {
    BoundPorts x = Check.carrying("00,01", 1);
    Check.send(x, 0, 3);
    Check.send(x, 4, 3);
    Check.send(x, 8, 2);
    x.rank(1, 0);
    x.rank(0, 9);
    check.due("send(8)", x.send(8), 1);
    check.due("send(0)", x.send(0), 1);
    check.due("send(4)", x.send(4), 1);
    check.due("in the QUEUE", x.of(0, 9), 11);
    check.due("MARKER of 8", x.queue(0, 8), -9);
    check.due("MARKER of 0", x.queue(0, 9), -1);
    check.due("MARKER of 4", x.queue(0, 10), -5);
    check.due("HELD in all", x.count(9), 3);
    x.tick(3);
    check.due("in the QUEUE", x.of(0, 9), 8);
    x.hear(0, 1, 0, true);
    x.hear(1, 1, 0, true);
    check.due("tick", x.tick(3), 3);
    check.due("tick", x.tick(2), 2);
    x.hear(1, 1, 0, true);
    check.due("three MARKERS, and what was HELD", x.tick(4), 3);
    check.due("ANSWERED", x.count(10), 3);
    check.due("LOST", x.count(8), 0);
  }

  private static void heldAreEightAtMost(Check check) {
    BoundPorts x = Check.carrying("00,01", 2);
    x.send(0);
    x.set(2, 1);
    for (int i = 0; i < 8; i++) {
      check.due("HELD " + i, x.send(0), 1);
    }
    check.due("the ninth", x.send(0), 2);
    check.due("HELD", x.flow(0, 2), 8);
    check.due("LOST", x.flow(0, 5), 1);
    check.due("sent", x.flow(0, 3), 10);
    x.tick(1);
    check.due("the MARKER is ANSWERED, one goes out", x.tick(1), 1);
    for (int place = 0; place < 7; place++) {
      check.due("queue", x.queue(1, place), 3 + place);
    }
    check.due("in the QUEUE", x.of(1, 9), 7);
    check.due("the next number", x.send(0), 0);
    check.due("queue", x.queue(1, 7), 11);
  }

  private static void movingHoldsWithoutWay(Check check) {
    BoundPorts x = Check.carrying("00,01", 2);
    x.send(0);
    x.set(2, 1);
    x.send(0);
    x.hear(0, 1, 0, false);
    x.hear(1, 1, 0, false);
    check.due("way", x.way(0), BoundPorts.NONE);
    check.due("a MOVING one is HELD", x.send(0), 1);
    check.due("tick", x.tick(2), 1);
    check.due("on none", x.flow(0, 0), BoundPorts.NONE);
    check.due("LOST", x.flow(0, 5), 2);
    check.due("HELD", x.flow(0, 2), 0);
    check.due("MOVING", x.flow(0, 1), 0);
    check.due("ANSWERED", x.count(10), 1);
  }

  private static void sendRefuses(Check check) {
    int[] wrong = {-1, 12, Integer.MIN_VALUE, Integer.MAX_VALUE};
    BoundPorts empty = new BoundPorts();
    BoundPorts x = Check.carrying("00,01", 2);
    for (int w : wrong) {
      check.refused(empty, "send(" + w + "), no BOARD", BoundPorts.UNKNOWN, () -> empty.send(w));
      check.refused(x, "send(" + w + ")", BoundPorts.UNKNOWN, () -> x.send(w));
    }
    for (int flow = 0; flow < 12; flow++) {
      check.due("send, no BOARD", empty.send(flow), BoundPorts.STATE);
      check.due("sent, no BOARD", empty.flow(flow, 3), 0);
    }
  }

  private static void flowTellsAll(Check check) {
    BoundPorts x = Check.carrying("10,11", 2);
    x.send(5);
    x.send(5);
    x.tick(1);
    x.set(2, 1);
    Check.send(x, 5, 10);
    int[] due = {1, 1, 8, 12, 1, 2, 1};
    for (int what = 0; what < due.length; what++) {
      check.due("flow(5, " + what + ")", x.flow(5, what), due[what]);
    }
    check.due("another FLOW of that KEY", x.flow(1, 3), 0);
  }

  private static void flowRefuses(Check check) {
    BoundPorts x = Check.carrying("00,01", 2);
    int[] wrong = {-1, 12, Integer.MIN_VALUE, Integer.MAX_VALUE};
    for (int w : wrong) {
      check.refused(x, "flow(" + w + ", 0)", BoundPorts.UNKNOWN, () -> x.flow(w, 0));
      check.refused(x, "flow(" + w + ", 7)", BoundPorts.UNKNOWN, () -> x.flow(w, 7));
      check.refused(x, "flow(0, " + w + ")", BoundPorts.OUTSIDE, () -> x.flow(0, w));
    }
    check.refused(x, "flow(0, 7)", BoundPorts.OUTSIDE, () -> x.flow(0, 7));
  }

  private static void tickForgets(Check check) {
    BoundPorts x = Check.carrying("00,01", 1);
    x.tick(2);
    x.hear(1, 1, 0, true);
    x.tick(1);
    check.due("AGE", x.of(0, 6), 3);
    check.due("WAITED", x.of(0, 8), 3);
    check.due("SPARE", x.of(1, 7), 1);
    x.tick(1);
    check.due("forgotten", x.of(0, 6), BoundPorts.NONE);
    check.due("WAITED", x.of(0, 8), 0);
    check.due("LEAD", x.key(0, 0), 1);
    check.due("it WAITED in that TICK", x.of(1, 8), 1);
    check.due("TICKS", x.count(5), 4);
  }

  /** Port 2 is ALIKE to the LEAD; port 1 is not, and is ahead of it till both others are forgotten. */
  private static void tickForgetsAllAtOnce(Check check) {
    BoundPorts x = Check.withBoard("00,01,02");
    for (int port = 0; port < 3; port++) {
      x.up(port, true);
      x.hear(port, port == 1 ? 2 : 1, 0, true);
    }
    x.tick(3);
    x.hear(2, 1, 0, true);
    check.due("WAITED", x.of(2, 8), 3);
    x.tick(1);
    check.due("LEAD", x.key(0, 0), 2);
    check.due("WAITED without a break", x.of(2, 8), 4);
  }

  private static void tickWaits(Check check) {
    BoundPorts x = Check.carrying("00,01", 1);
    for (int i = 1; i <= 12; i++) {
      x.hear(0, 1, 0, true);
      x.tick(1);
      check.due("WAITED", x.of(0, 8), Math.min(i, 9));
    }
    x.set(1, 9);
    check.due("ATTACHED by nine", x.of(0, 7), 4);
    check.due("another one has not WAITED", x.of(1, 8), 0);
  }

  private static void tickLetsOneOutOfEach(Check check) {
    BoundPorts x = Check.carrying("00,01,10", 2);
    Check.send(x, 0, 2);
    Check.send(x, 4, 3);
    Check.send(x, 1, 1);
    check.due("one of each", x.tick(1), 3);
    check.due("of those that are left", x.tick(1), 2);
    check.due("the last", x.tick(1), 1);
    check.due("none", x.tick(1), 0);
    check.due("DELIVERED", x.flow(4, 4), 3);
    check.due("latest", x.flow(4, 6), 3);
    check.due("DELIVERED in all", x.count(7), 6);
    check.due("fifty", x.tick(50), 0);
    check.due("TICKS", x.count(5), 54);
  }

  private static void tickAnswersByNumber(Check check) {
    BoundPorts ahead = Check.carrying("00,01", 2);
    ahead.send(0);
    ahead.set(2, 1);
    ahead.send(0);
    ahead.tick(1);
    check.due("into a later PORT: out in the same TICK", ahead.tick(1), 1);
    BoundPorts behind = Check.carrying("00,01", 2);
    behind.send(4);
    behind.set(2, 1);
    behind.send(4);
    behind.tick(1);
    check.due("into an earlier PORT: out in the next", behind.tick(1), 0);
    check.due("in the QUEUE", behind.queue(0, 0), 402);
    check.due("tick", behind.tick(1), 1);
  }

  private static void answerBackOnTheSamePort(Check check) {
    BoundPorts x = Check.carrying("00,01", 2);
    x.send(0);
    x.set(2, 1);
    Check.send(x, 0, 8);
    x.set(2, 0);
    x.tick(1);
    check.due("the MARKER goes out", x.tick(1), 0);
    check.due("ON", x.flow(0, 0), 0);
    check.due("in the QUEUE", x.of(0, 9), 8);
    check.due("queue", x.queue(0, 0), 2);
    check.due("LOST", x.count(8), 0);
  }

  private static void answerLosesWhatHasNoRoom(Check check) {
    BoundPorts x = Check.carrying("00,01", 2);
    x.send(4);
    Check.send(x, 0, 5);
    x.set(2, 1);
    Check.send(x, 4, 5);
    x.tick(2);
    check.due("ON", x.flow(4, 0), 0);
    check.due("in the QUEUE", x.of(0, 9), 8);
    check.due("LOST", x.flow(4, 5), 0);

    BoundPorts full = Check.carrying("00,01", 2);
    full.send(4);
    Check.send(full, 0, 8);
    full.set(2, 1);
    Check.send(full, 4, 5);
    full.tick(2);
    check.due("in the QUEUE", full.of(0, 9), 8);
    check.due("the first ones have room", full.queue(0, 6), 402);
    check.due("and the next", full.queue(0, 7), 403);
    check.due("LOST", full.flow(4, 5), 3);
    check.due("HELD", full.flow(4, 2), 0);
    check.due("LOST in all", full.count(8), 3);
  }

  private static void tickLetsOutOfPortsThatCarryNoMore(Check check) {
    BoundPorts x = Check.carrying("00", 1);
    Check.send(x, 0, 7);
    check.due("tick", x.tick(6), 6);
    check.due("forgotten", x.of(0, 3), BoundPorts.NONE);
    check.due("tick", x.tick(6), 1);
  }

  private static void tickRefuses(Check check) {
    BoundPorts empty = new BoundPorts();
    BoundPorts x = Check.carrying("00,01", 2);
    x.send(0);
    int[] wrong = {0, 51, -1, Integer.MIN_VALUE, Integer.MAX_VALUE};
    for (int w : wrong) {
      check.refused(empty, "tick(" + w + "), no BOARD", BoundPorts.OUTSIDE, () -> empty.tick(w));
      check.refused(x, "tick(" + w + ")", BoundPorts.OUTSIDE, () -> x.tick(w));
    }
    check.refused(empty, "tick(1), no BOARD", BoundPorts.STATE, () -> empty.tick(1));
    check.refused(empty, "tick(50), no BOARD", BoundPorts.STATE, () -> empty.tick(50));
  }
}
