/** The boundary cases that stand ahead of the promises: WAYS, QUEUES, HELD LETTERS, MARKERS. */
public final class EdgesOfMovesTest {
  public static void main(String[] args) {
    Edges edges = new Edges();
    ways(edges);
    sent(edges);
    answered(edges);
    down(edges);
    edges.end(Edges.TERMS, Edges.TERMS);
  }

  private static void ways(Edges edges) {
    edges
        .of(Edges.TERMS, "FLOWS are 0 to 11; FLOW f is of KEY f by 4's rest",
            EdgesOfMovesTest::keyOfFlow)
        .of(Edges.TERMS, "the rest by how many there are of (f by 4, rounded down, and SHIFT) tells",
            EdgesOfMovesTest::wayWrapsAround)
        .of(Edges.TERMS, "(SHIFT 0 to 9; 0 at first)", EdgesOfMovesTest::shiftAtFirst)
        .of(Edges.TERMS, "none, if there are none", EdgesOfMovesTest::noWay)
        .of(Edges.TERMS, "LETTERS of a FLOW have numbers, from 1 on, as they are sent",
            EdgesOfMovesTest::numbers)
        .of(Edges.TERMS, "A FLOW is ON a PORT, or on none (at first)", EdgesOfMovesTest::onNone);
  }

  private static void sent(Edges edges) {
    edges
        .of(Edges.TERMS, "it is HELD (8 at most of a FLOW; else it is LOST)",
            EdgesOfMovesTest::eightHeldOfEach)
        .of(Edges.TERMS, "Else, if there is no WAY, it is LOST", EdgesOfMovesTest::lostWithoutWay)
        .of(Edges.TERMS, "and some LETTER of it is in the QUEUE there", EdgesOfMovesTest::someLetter)
        .of(Edges.TERMS, "(behind all, however many there are)", EdgesOfMovesTest::markersBehindAll)
        .of(Edges.TERMS, "(it is LOST, if 8 or more are there)", EdgesOfMovesTest::eightAreThere)
        .of(Edges.TERMS, "(it is LOST, if 8 or more are there)", EdgesOfMovesTest::moreThanEight)
        .of(Edges.TERMS, "(it is LOST, if 8 or more are there)", EdgesOfMovesTest::markersTakeRoom);
  }

  private static void answered(Edges edges) {
    edges
        .of(Edges.TERMS, "it is ON its WAY then (none: on none)", EdgesOfMovesTest::answeredOnNone)
        .of(Edges.TERMS, "all that is HELD of it comes into the QUEUE there, in order",
            EdgesOfMovesTest::heldComeBack)
        .of(Edges.TERMS, "(it is LOST, so far as there is no WAY, or 8 or more are there)",
            EdgesOfMovesTest::heldFillTheQueue)
        .of(Edges.TERMS, "(it is LOST, so far as there is no WAY, or 8 or more are there)",
            EdgesOfMovesTest::heldFindNoRoom);
  }

  private static void down(Edges edges) {
    edges
        .of(Edges.TERMS, "As a PORT is DOWN, all in its QUEUE goes", EdgesOfMovesTest::emptyQueueGoes)
        .of(Edges.TERMS, "LETTERS are LOST; MARKERS are ANSWERED, in order, then",
            EdgesOfMovesTest::fullQueueGoes)
        .of(Edges.TERMS, "LETTERS are LOST; MARKERS are ANSWERED, in order, then",
            EdgesOfMovesTest::markerAloneGoes)
        .of(Edges.TERMS, "LETTERS are LOST; MARKERS are ANSWERED, in order, then",
            EdgesOfMovesTest::lastPortGoes);
  }

  /** Port 0 carries alone till its RANK is 9, port 1 from then on. */
  private static BoundPorts oneOfTwo() {
    return Check.carrying("00,01", 1);
  }

  private static void keyOfFlow(Check check) {
    BoundPorts x = Check.carrying("30,20,10,00", 1);
    for (int flow = 0; flow <= 11; flow++) {
      check.due("way(" + flow + ")", x.way(flow), 3 - flow % 4);
      check.due("send(" + flow + ")", x.send(flow), 0);
    }
    check.due("way(12)", x.way(12), BoundPorts.UNKNOWN);
    check.due("way(-1)", x.way(-1), BoundPorts.UNKNOWN);
    check.due("QUEUE of KEY 3", x.queue(0, 2), 1101);
    check.due("QUEUE of KEY 0", x.queue(3, 2), 801);
  }

  private static void wayWrapsAround(Check check) {
    for (int many = 1; many <= 6; many++) {
      BoundPorts x = Check.carrying("00,01,02,03,04,05", many);
      for (int shift = 0; shift <= 9; shift++) {
        x.set(2, shift);
        for (int flow = 0; flow <= 8; flow += 4) {
          check.due("way(" + flow + ") of " + many + ", SHIFT " + shift, x.way(flow),
              (flow / 4 + shift) % many);
        }
      }
    }
    BoundPorts gaps = Check.carrying("10,09,11,00,05", 3);
    check.due("by number, the first", gaps.way(0), 1);
    check.due("by number, the second", gaps.way(4), 3);
    check.due("by number, the last", gaps.way(8), 4);
    gaps.set(2, 1);
    check.due("around", gaps.way(8), 1);
  }

  private static void shiftAtFirst(Check check) {
    BoundPorts x = Check.carrying("00,01", 2);
    check.due("SHIFT", x.count(4), 0);
    check.due("way(0)", x.way(0), 0);
    check.due("SHIFT 10", x.set(2, 10), BoundPorts.OUTSIDE);
    check.due("SHIFT -1", x.set(2, -1), BoundPorts.OUTSIDE);
    check.due("SHIFT 9", x.set(2, 9), 0);
    check.due("way(0)", x.way(0), 1);
    check.due("SHIFT 0", x.set(2, 0), 9);
    check.due("way(0)", x.way(0), 0);
  }

  private static void noWay(Check check) {
    BoundPorts x = Check.carrying("00,10", 1);
    check.due("a KEY without PORTS", x.way(2), BoundPorts.NONE);
    x.hear(0, 1, 0, false);
    check.due("a PORT that is not READY", x.way(0), BoundPorts.NONE);
    check.due("another KEY has its WAY", x.way(1), 1);
    x.set(1, 9);
    check.due("none has WAITED", x.way(1), BoundPorts.NONE);
    x.set(1, 0);
    x.tick(4);
    check.due("all is forgotten", x.way(1), BoundPorts.NONE);
  }

  private static void numbers(Check check) {
    BoundPorts x = Check.withBoard("00,01");
    check.due("number 1 is LOST", x.send(0), 2);
    x.set(1, 0);
    Check.hearAll(x);
    check.due("number 2", x.send(0), 0);
    check.due("of another FLOW: number 1", x.send(8), 0);
    check.due("queue(0, 0)", x.queue(0, 0), 2);
    check.due("queue(0, 1)", x.queue(0, 1), 801);
    x.set(2, 1);
    check.due("number 3 is HELD", x.send(0), 1);
    x.tick(2);
    check.due("the MARKER alone is there", x.queue(0, 0), -1);
    x.tick(1);
    check.due("latest", x.flow(0, 6), 3);
    check.due("number 4", x.send(0), 0);
    check.due("queue(1, 0)", x.queue(1, 0), 4);
    Check.type(x, "00");
    x.board();
    x.send(0);
    check.due("from 1 on again", x.flow(0, 3), 1);
  }

  private static void onNone(Check check) {
    BoundPorts x = oneOfTwo();
    for (int flow = 0; flow <= 11; flow++) {
      check.due("at first", x.flow(flow, 0), BoundPorts.NONE);
    }
    check.due("from none without a MARKER", x.send(0), 0);
    check.due("ON", x.flow(0, 0), 0);
    check.due("another FLOW is on none yet", x.flow(4, 0), BoundPorts.NONE);
    x.send(1);
    check.due("LOST without a WAY: on none yet", x.flow(1, 0), BoundPorts.NONE);
  }

  private static void eightHeldOfEach(Check check) {
    BoundPorts x = Check.carrying("00,01", 2);
    x.send(0);
    x.send(4);
    x.set(2, 1);
    for (int i = 1; i <= 8; i++) {
      check.due("HELD of 0", x.send(0), 1);
      check.due("HELD of 4", x.send(4), 1);
      check.due("how many are HELD", x.flow(0, 2), i);
    }
    check.due("the ninth of 0", x.send(0), 2);
    check.due("the ninth of 4", x.send(4), 2);
    check.due("HELD of 0", x.flow(0, 2), 8);
    check.due("HELD in all", x.count(9), 16);
    check.due("LOST in all", x.count(8), 2);
    check.due("one MARKER alone", x.of(0, 9), 2);
  }

  private static void lostWithoutWay(Check check) {
    BoundPorts x = oneOfTwo();
    x.send(0);
    x.hear(0, 1, 0, false);
    check.due("though it has a LETTER there", x.send(0), 2);
    check.due("ON", x.flow(0, 0), 0);
    check.due("MOVING", x.flow(0, 1), 0);
    check.due("no MARKER", x.of(0, 9), 1);
    check.due("LOST", x.flow(0, 5), 1);
  }

  private static void someLetter(Check check) {
    BoundPorts one = oneOfTwo();
    Check.send(one, 0, 2);
    one.tick(1);
    one.rank(0, 9);
    check.due("one is there", one.send(0), 1);
    check.due("MOVING", one.flow(0, 1), 1);
    BoundPorts none = oneOfTwo();
    Check.send(none, 0, 2);
    none.tick(2);
    none.rank(0, 9);
    check.due("none is there", none.send(0), 0);
    check.due("ON", none.flow(0, 0), 1);
    BoundPorts others = oneOfTwo();
    others.send(0);
    Check.send(others, 4, 7);
    others.tick(1);
    others.rank(0, 9);
    check.due("of another FLOW alone", others.send(0), 0);
    check.due("MARKERS", others.of(0, 9), 7);
    BoundPorts same = oneOfTwo();
    same.send(0);
    same.rank(0, 9);
    same.rank(0, 0);
    check.due("ON its WAY", same.send(0), 0);
    check.due("no MARKER", same.queue(0, 1), 2);
  }

  private static void markersBehindAll(Check check) {
    BoundPorts x = oneOfTwo();
    Check.send(x, 0, 3);
    Check.send(x, 4, 3);
    Check.send(x, 8, 2);
    x.rank(0, 9);
    int[] order = {4, 8, 0};
    for (int i = 0; i < order.length; i++) {
      check.due("send(" + order[i] + ")", x.send(order[i]), 1);
      check.due("how many are in the QUEUE", x.of(0, 9), 9 + i);
      check.due("the MARKER is the last", x.queue(0, 8 + i), -1 - order[i]);
    }
    check.due("behind the last", x.queue(0, 11), BoundPorts.UNKNOWN);
    check.due("LOST", x.count(8), 0);
  }

  private static void eightAreThere(Check check) {
    BoundPorts x = oneOfTwo();
    for (int i = 1; i <= 8; i++) {
      check.due("LETTER " + i, x.send(4), 0);
    }
    check.due("the ninth", x.send(4), 2);
    check.due("of another FLOW", x.send(0), 2);
    check.due("it is ON its WAY", x.flow(0, 0), 0);
    check.due("how many are in the QUEUE", x.of(0, 9), 8);
    x.tick(1);
    check.due("seven are there", x.send(0), 0);
    check.due("eight again", x.send(0), 2);
    check.due("the last one", x.queue(0, 7), 2);
  }

  private static void moreThanEight(Check check) {
    BoundPorts x = oneOfTwo();
    Check.send(x, 0, 4);
    Check.send(x, 4, 4);
    x.rank(0, 9);
    x.send(0);
    x.send(4);
    x.rank(0, 0);
    for (int there = 10; there >= 8; there--) {
      check.due("how many are in the QUEUE", x.of(0, 9), there);
      check.due("send(8)", x.send(8), 2);
      x.tick(1);
    }
    check.due("seven are there", x.send(8), 0);
    check.due("the last one", x.queue(0, 7), 804);
  }

  private static void markersTakeRoom(Check check) {
    BoundPorts x = oneOfTwo();
    Check.send(x, 0, 3);
    Check.send(x, 4, 3);
    x.rank(0, 9);
    x.send(0);
    x.send(4);
    x.rank(0, 0);
    check.due("six LETTERS and two MARKERS", x.send(8), 2);
    x.tick(1);
    check.due("five LETTERS and two MARKERS", x.send(8), 0);
  }

  private static void answeredOnNone(Check check) {
    BoundPorts x = Check.carrying("00,01", 2);
    x.send(0);
    x.set(2, 1);
    Check.send(x, 0, 8);
    x.hear(0, 1, 0, false);
    x.hear(1, 1, 0, false);
    check.due("a MOVING one stays so without a WAY", x.send(0), 2);
    x.tick(2);
    check.due("on none", x.flow(0, 0), BoundPorts.NONE);
    check.due("MOVING", x.flow(0, 1), 0);
    check.due("HELD", x.flow(0, 2), 0);
    check.due("LOST", x.flow(0, 5), 9);
    check.due("ANSWERED", x.count(10), 1);
    x.hear(1, 1, 0, true);
    check.due("from none without a MARKER", x.send(0), 0);
    check.due("ON", x.flow(0, 0), 1);
  }

  private static void heldComeBack(Check check) {
    BoundPorts x = oneOfTwo();
    x.send(0);
    x.rank(0, 9);
    Check.send(x, 0, 8);
    x.rank(0, 0);
    x.tick(2);
    check.due("ON the PORT that it was ON", x.flow(0, 0), 0);
    check.due("all eight have room: the MARKER is gone", x.of(0, 9), 8);
    for (int place = 0; place < 8; place++) {
      check.due("queue(0, " + place + ")", x.queue(0, place), 2 + place);
    }
    check.due("LOST", x.count(8), 0);
  }

  /** Port 0 is answered ahead of port 1, so one more goes out behind that. */
  private static void heldFillTheQueue(Check check) {
    for (int ahead = 0; ahead <= 8; ahead++) {
      BoundPorts x = Check.carrying("00,01", 2);
      x.send(0);
      Check.send(x, 4, ahead);
      x.set(2, 1);
      Check.send(x, 0, 8);
      x.tick(2);
      int room = Math.min(8, 9 - ahead);
      check.due("LOST, " + ahead + " ahead", x.flow(0, 5), 8 - room);
      check.due("HELD", x.flow(0, 2), 0);
      check.due("ON", x.flow(0, 0), 1);
      check.due("how many are in the QUEUE", x.of(1, 9), 7);
      check.due("the last one, " + ahead + " ahead", x.queue(1, 6), 1 + room);
    }
  }

  private static void heldFindNoRoom(Check check) {
    BoundPorts eight = Check.carrying("00,01", 2);
    eight.send(0);
    Check.send(eight, 4, 8);
    eight.set(2, 1);
    Check.send(eight, 0, 3);
    eight.up(0, false);
    check.due("eight are there: LOST", eight.flow(0, 5), 4);
    check.due("ON its WAY even so", eight.flow(0, 0), 1);
    check.due("HELD", eight.flow(0, 2), 0);
    check.due("how many are in the QUEUE", eight.of(1, 9), 8);
    BoundPorts nine = Check.carrying("00,01", 2);
    nine.send(0);
    Check.send(nine, 4, 8);
    nine.set(2, 1);
    Check.send(nine, 0, 3);
    check.due("a MARKER behind the eight", nine.send(4), 1);
    nine.up(0, false);
    check.due("nine are there: LOST", nine.flow(0, 5), 4);
    check.due("how many are in the QUEUE", nine.of(1, 9), 9);
    check.due("the other FLOW is MOVING yet", nine.flow(4, 1), 1);
  }

  private static void emptyQueueGoes(Check check) {
    BoundPorts x = oneOfTwo();
    check.due("DOWN", x.up(0, false), 1);
    check.due("LOST", x.count(8), 0);
    check.due("ANSWERED", x.count(10), 0);
    check.due("WAY", x.way(0), 1);
  }

  private static void fullQueueGoes(Check check) {
    BoundPorts x = oneOfTwo();
    Check.send(x, 0, 3);
    Check.send(x, 4, 3);
    Check.send(x, 8, 2);
    x.rank(0, 9);
    Check.send(x, 8, 3);
    Check.send(x, 0, 3);
    Check.send(x, 4, 3);
    check.due("eight LETTERS, three MARKERS", x.of(0, 9), 11);
    check.due("DOWN", x.up(0, false), 1);
    check.due("how many are in the QUEUE", x.of(0, 9), 0);
    check.due("ANSWERED", x.count(10), 3);
    check.due("HELD", x.count(9), 0);
    int[] due = {803, 804, 805, 4, 5, 6, 404, 405};
    for (int place = 0; place < due.length; place++) {
      check.due("queue(1, " + place + ")", x.queue(1, place), due[place]);
    }
    check.due("no room for the ninth", x.of(1, 9), 8);
    check.due("LOST of 4", x.flow(4, 5), 4);
    check.due("LOST in all", x.count(8), 9);
  }

  private static void markerAloneGoes(Check check) {
    BoundPorts x = oneOfTwo();
    x.send(0);
    x.rank(0, 9);
    x.send(0);
    x.tick(1);
    check.due("the MARKER alone", x.of(0, 9), 1);
    x.up(0, false);
    check.due("LOST", x.count(8), 0);
    check.due("ANSWERED", x.count(10), 1);
    check.due("MOVING", x.flow(0, 1), 0);
    check.due("ON", x.flow(0, 0), 1);
    check.due("what was HELD", x.queue(1, 0), 2);
  }

  /** Its own MARKER finds no WAY: the PORT is DOWN ahead of the answer. */
  private static void lastPortGoes(Check check) {
    BoundPorts x = oneOfTwo();
    x.send(0);
    x.rank(0, 9);
    Check.send(x, 0, 8);
    x.up(1, false);
    check.due("the WAY is the PORT again", x.way(0), 0);
    x.up(0, false);
    check.due("on none", x.flow(0, 0), BoundPorts.NONE);
    check.due("MOVING", x.flow(0, 1), 0);
    check.due("HELD", x.flow(0, 2), 0);
    check.due("LOST", x.flow(0, 5), 9);
    check.due("how many are in the QUEUE", x.of(0, 9), 0);
  }
}
