/** Promises 6 to 9: set, rank, up, hear. */
public final class ToldTest {
  public static void main(String[] args) {
    Check check = new Check();
    setAnswersWhatItWas(check);
    setRefuses(check);
    widthActsAtOnce(check);
    waitActsAtOnce(check);
    rankActsAtOnce(check);
    rankRefuses(check);
    upAndDown(check);
    downForgets(check);
    downLosesAndAnswers(check);
    downAnswersInOrder(check);
    downAnswersAMarkerThatIsFirst(check);
    downKeepsTheFlowOnIt(check);
    hearIsKept(check);
    hearTellsWhetherItCarries(check);
    hearRefuses(check);
    check.end();
  }

  private static void setAnswersWhatItWas(Check check) {
    BoundPorts x = new BoundPorts();
    int[] was = {2, 2, 0};
    int[] least = {1, 0, 0};
    int[] most = {6, 9, 9};
    for (int what = 0; what <= 2; what++) {
      check.due("set to the least", x.set(what, least[what]), was[what]);
      check.due("count", x.count(what + 2), least[what]);
      check.due("set to the most", x.set(what, most[what]), least[what]);
      check.due("count", x.count(what + 2), most[what]);
      check.due("set to the same", x.set(what, most[what]), most[what]);
    }
  }

  private static void setRefuses(Check check) {
    BoundPorts x = Check.carrying("00,01", 2);
    int[][] outside = {
      {0, 0}, {0, 7}, {0, -1}, {1, -1}, {1, 10}, {2, -1}, {2, 10}, {3, 1}, {-1, 1},
      {0, Integer.MIN_VALUE}, {1, Integer.MAX_VALUE}, {Integer.MAX_VALUE, 1}, {Integer.MIN_VALUE, 1}
    };
    for (int[] o : outside) {
      check.refused(x, "set(" + o[0] + ", " + o[1] + ")", BoundPorts.OUTSIDE,
          () -> x.set(o[0], o[1]));
    }
  }

  private static void widthActsAtOnce(Check check) {
    BoundPorts x = Check.carrying("00,01,02", 3);
    x.tick(2);
    check.due("CHOSEN", x.key(0, 1), 7);
    check.due("WAITED", x.of(2, 8), 2);
    x.set(0, 1);
    check.due("CHOSEN", x.key(0, 1), 1);
    check.due("SPARE", x.key(0, 2), 6);
    check.due("WAITED of a SPARE one", x.of(2, 8), 0);
    x.set(0, 3);
    check.due("CHOSEN", x.key(0, 1), 7);
    check.due("WAITED without a break", x.of(0, 8), 2);
    check.due("WAITED begins anew", x.of(2, 8), 0);
  }

  private static void waitActsAtOnce(Check check) {
    BoundPorts x = Check.carrying("00", 1);
    x.tick(3);
    check.due("it CARRIES", x.of(0, 7), 4);
    x.set(1, 4);
    check.due("it is CHOSEN alone", x.of(0, 7), 2);
    check.due("way", x.way(0), BoundPorts.NONE);
    x.set(1, 3);
    check.due("it CARRIES again", x.of(0, 7), 4);
    check.due("WAITED stays", x.of(0, 8), 3);
  }

  private static void rankActsAtOnce(Check check) {
    BoundPorts x = Check.carrying("05,05,05", 2);
    x.tick(1);
    check.due("CHOSEN by number", x.key(0, 1), 3);
    check.due("rank", x.rank(2, 0), 5);
    check.due("of(2, 1)", x.of(2, 1), 0);
    check.due("LEAD", x.key(0, 0), 2);
    check.due("CHOSEN", x.key(0, 1), 5);
    check.due("WAITED of the one that is SPARE now", x.of(1, 8), 0);
    check.due("WAITED of the one that stays", x.of(0, 8), 1);
    check.due("rank of one that is DOWN", Check.withBoard("12").rank(0, 9), 2);
    check.due("rank 9", x.rank(2, 9), 0);
    check.due("CHOSEN", x.key(0, 1), 3);
  }

  private static void rankRefuses(Check check) {
    BoundPorts x = Check.carrying("00,01", 1);
    int[] unknown = {-1, 2, 6, Integer.MIN_VALUE, Integer.MAX_VALUE};
    for (int port : unknown) {
      check.refused(x, "rank(" + port + ", 0)", BoundPorts.UNKNOWN, () -> x.rank(port, 0));
      check.refused(x, "rank(" + port + ", 10)", BoundPorts.UNKNOWN, () -> x.rank(port, 10));
    }
    int[] outside = {-1, 10, Integer.MIN_VALUE, Integer.MAX_VALUE};
    for (int v : outside) {
      check.refused(x, "rank(0, " + v + ")", BoundPorts.OUTSIDE, () -> x.rank(0, v));
    }
  }

  private static void upAndDown(Check check) {
    BoundPorts x = Check.withBoard("00,01");
    check.due("up of a DOWN one", x.up(1, true), 0);
    check.due("of(1, 2)", x.of(1, 2), 1);
    check.due("of(0, 2)", x.of(0, 2), 0);
    check.due("up of an UP one", x.up(1, true), 1);
    check.due("down of an UP one", x.up(1, false), 1);
    check.due("down of a DOWN one", x.up(1, false), 0);
    check.due("of(1, 2)", x.of(1, 2), 0);
    int[] unknown = {-1, 2, Integer.MIN_VALUE, Integer.MAX_VALUE};
    for (int port : unknown) {
      check.refused(x, "up(" + port + ", true)", BoundPorts.UNKNOWN, () -> x.up(port, true));
      check.refused(x, "up(" + port + ", false)", BoundPorts.UNKNOWN, () -> x.up(port, false));
    }
  }

  private static void downForgets(Check check) {
    BoundPorts x = Check.carrying("00,01", 1);
    x.tick(1);
    x.up(0, true);
    check.due("HEARD stays with an UP one that is UP", x.of(0, 3), 1);
    check.due("WAITED stays", x.of(0, 8), 1);
    x.up(0, false);
    for (int what = 3; what <= 6; what++) {
      check.due("of(0, " + what + ")", x.of(0, what), BoundPorts.NONE);
    }
    check.due("how it is", x.of(0, 7), 0);
    check.due("WAITED", x.of(0, 8), 0);
    check.due("LEAD", x.key(0, 0), 1);
    check.due("CHOSEN", x.key(0, 1), 2);
    x.up(0, true);
    check.due("what was HEARD is gone", x.of(0, 3), BoundPorts.NONE);
  }

  private static void downLosesAndAnswers(Check check) {
    BoundPorts x = Check.carrying("00,01", 2);
    Check.send(x, 0, 3);
    x.set(2, 1);
    Check.send(x, 0, 2);
    check.due("in the QUEUE", x.of(0, 9), 4);
    check.due("down", x.up(0, false), 1);
    check.due("in the QUEUE", x.of(0, 9), 0);
    check.due("LOST", x.flow(0, 5), 3);
    check.due("MOVING", x.flow(0, 1), 0);
    check.due("HELD", x.flow(0, 2), 0);
    check.due("ON", x.flow(0, 0), 1);
    check.due("ANSWERED", x.count(10), 1);
    check.due("first of the HELD", x.queue(1, 0), 4);
    check.due("second of the HELD", x.queue(1, 1), 5);
    check.due("tick", x.tick(2), 2);
    check.due("latest", x.flow(0, 6), 5);

    BoundPorts alone = Check.carrying("00,01", 2);
    alone.send(0);
    alone.set(2, 1);
    Check.send(alone, 0, 3);
    alone.hear(1, 1, 0, false);
    alone.up(0, false);
    check.due("LOST without a WAY", alone.flow(0, 5), 4);
    check.due("on none", alone.flow(0, 0), BoundPorts.NONE);
    check.due("MOVING", alone.flow(0, 1), 0);
  }

  private static void downAnswersInOrder(Check check) {
    BoundPorts x = Check.carrying("00,01,02", 3);
    x.send(4);
    x.set(2, 1);
    x.send(0);
    x.send(4);
    x.set(2, 2);
    x.send(0);
    check.due("MARKER of 4", x.queue(1, 2), -5);
    check.due("MARKER of 0", x.queue(1, 3), -1);
    x.set(0, 2);
    x.up(2, false);
    x.up(1, false);
    check.due("the first MARKER is ANSWERED first", x.queue(0, 0), 402);
    check.due("the second MARKER is ANSWERED then", x.queue(0, 1), 2);
    check.due("ANSWERED", x.count(10), 2);
  }

  private static void downAnswersAMarkerThatIsFirst(Check check) {
    BoundPorts x = Check.carrying("00,01", 2);
    x.send(0);
    x.set(2, 1);
    x.send(0);
    x.tick(1);
    check.due("the MARKER is first", x.queue(0, 0), -1);
    x.up(0, false);
    check.due("MOVING", x.flow(0, 1), 0);
    check.due("what was HELD", x.queue(1, 0), 2);
    check.due("LOST", x.count(8), 0);
  }

  private static void downKeepsTheFlowOnIt(Check check) {
    BoundPorts x = Check.carrying("00,01", 2);
    Check.send(x, 0, 2);
    x.up(0, false);
    check.due("ON", x.flow(0, 0), 0);
    check.due("LOST", x.flow(0, 5), 2);
    check.due("it goes another way without a MARKER", x.send(0), 0);
    check.due("ON", x.flow(0, 0), 1);
    check.due("ANSWERED", x.count(10), 0);
  }

  private static void hearIsKept(Check check) {
    BoundPorts x = Check.withBoard("23,12");
    x.up(0, true);
    check.due("hear", x.hear(0, 9, 3, true), 0);
    check.due("PARTNER", x.of(0, 3), 9);
    check.due("PARTNER's KEY", x.of(0, 4), 3);
    check.due("READY", x.of(0, 5), 1);
    check.due("AGE", x.of(0, 6), 0);
    x.tick(3);
    check.due("AGE", x.of(0, 6), 3);
    check.due("the latest holds", x.hear(0, 1, 0, false), 0);
    check.due("PARTNER", x.of(0, 3), 1);
    check.due("PARTNER's KEY", x.of(0, 4), 0);
    check.due("READY", x.of(0, 5), 0);
    check.due("AGE is 0 then", x.of(0, 6), 0);
    check.due("WAITED goes on with another PARTNER", x.of(0, 8), 3);
  }

  private static void hearTellsWhetherItCarries(Check check) {
    BoundPorts x = Check.withBoard("00,01,02");
    x.set(1, 1);
    for (int port = 0; port < 3; port++) {
      x.up(port, true);
      check.due("hear before it WAITED", x.hear(port, 1, 0, true), 0);
    }
    x.tick(1);
    check.due("hear of one that is not READY", x.hear(0, 1, 0, false), 0);
    check.due("hear of one that CARRIES", x.hear(0, 1, 0, true), 1);
    check.due("hear of a SPARE one", x.hear(2, 1, 0, true), 0);
    check.due("hear of one that is no more ALIKE", x.hear(1, 1, 1, true), 0);
    check.due("CHOSEN", x.key(0, 1), 5);
    x.set(1, 0);
    check.due("hear with another PARTNER", x.hear(1, 2, 0, true), 0);
    check.due("hear makes it ALIKE again", x.hear(1, 1, 0, true), 1);
  }

  private static void hearRefuses(Check check) {
    BoundPorts x = Check.withBoard("00,01");
    x.up(0, true);
    x.hear(0, 5, 2, true);
    int[] unknown = {-1, 2, Integer.MIN_VALUE, Integer.MAX_VALUE};
    for (int port : unknown) {
      check.refused(x, "hear at " + port, BoundPorts.UNKNOWN, () -> x.hear(port, 0, 4, true));
    }
    int[] partners = {0, 10, -1, Integer.MIN_VALUE, Integer.MAX_VALUE};
    for (int partner : partners) {
      check.refused(x, "hear of " + partner, BoundPorts.OUTSIDE, () -> x.hear(0, partner, 0, true));
      check.refused(x, "hear of it, DOWN", BoundPorts.OUTSIDE, () -> x.hear(1, partner, 0, true));
    }
    int[] keys = {-1, 4, Integer.MIN_VALUE, Integer.MAX_VALUE};
    for (int key : keys) {
      check.refused(x, "hear of key " + key, BoundPorts.OUTSIDE, () -> x.hear(0, 1, key, true));
      check.refused(x, "hear of it, DOWN", BoundPorts.OUTSIDE, () -> x.hear(1, 1, key, true));
    }
    check.refused(x, "hear at one that is DOWN", BoundPorts.STATE, () -> x.hear(1, 1, 0, true));
  }
}
