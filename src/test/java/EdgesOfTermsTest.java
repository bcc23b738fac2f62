/** The boundary cases that stand ahead of the promises: ports, who is CHOSEN, TICKS, refusals. */
public final class EdgesOfTermsTest {
  private static final String SIX = "00,01,02,03,04,05";

  public static void main(String[] args) {
    Edges edges = new Edges();
    ports(edges);
    chosen(edges);
    ticks(edges);
    refusals(edges);
    edges.end(Edges.TERMS, Edges.TERMS);
  }

  private static void ports(Edges edges) {
    edges
        .of(Edges.TERMS, "one to six PORTS with \",\" between", EdgesOfTermsTest::oneToSixPorts)
        .of(Edges.TERMS, "each a figure 0 to 3, its KEY", EdgesOfTermsTest::figureOfKey)
        .of(Edges.TERMS, "and a figure 0 to 9, its RANK", EdgesOfTermsTest::figureOfRank)
        .of(Edges.TERMS, "used for at most 512 calls", EdgesOfTermsTest::theLastCall)
        .of(Edges.TERMS, "A PORT is UP or DOWN (at first)", EdgesOfTermsTest::downAtFirst)
        .of(Edges.TERMS, "a PARTNER (1 to 9), the PARTNER's KEY (0 to 3) can be HEARD",
            EdgesOfTermsTest::leastAndMostHeard)
        .of(Edges.TERMS, "the latest holds; its AGE is 0 then", EdgesOfTermsTest::latestHolds)
        .of(Edges.TERMS, "What was HEARD is forgotten as its PORT is DOWN",
            EdgesOfTermsTest::downForgets);
  }

  private static void chosen(Edges edges) {
    edges
        .of(Edges.TERMS, "Two PORTS are ALIKE, if both have HEARD something", EdgesOfTermsTest::alike)
        .of(Edges.TERMS, "that of least RANK, of like ones the least; none", EdgesOfTermsTest::lead)
        .of(Edges.TERMS, "the first ones by RANK, of like ones by number",
            EdgesOfTermsTest::chosenOfLikeRank)
        .of(Edges.TERMS, "as many as WIDTH (1 to 6; 2 at first) tells", EdgesOfTermsTest::width)
        .of(Edges.TERMS, "the others of these are SPARE", EdgesOfTermsTest::noneIsSpare)
        .of(Edges.TERMS, "if it WAITED WAIT TICKS (0 to 9; 2 at first) or more",
            EdgesOfTermsTest::attachedByWait)
        .of(Edges.TERMS, "if it is ATTACHED and what was HEARD is READY", EdgesOfTermsTest::carries)
        .of(Edges.TERMS, "All this is so at once, whatever is altered", EdgesOfTermsTest::atOnce);
  }

  private static void ticks(Edges edges) {
    edges
        .of(Edges.TERMS, "what was HEARD 4 TICKS ahead (AGE is 4 then) is forgotten",
            EdgesOfTermsTest::forgottenByFour)
        .of(Edges.TERMS, "then each PORT that is CHOSEN then has WAITED 1 more",
            EdgesOfTermsTest::waitedAsItIsChosenByForgetting)
        .of(Edges.TERMS, "(9 at most; whenever one is not CHOSEN, it is 0)",
            EdgesOfTermsTest::waitedNineAtMost)
        .of(Edges.TERMS, "of each PORT that is UP, by number, the first one in its QUEUE goes out",
            EdgesOfTermsTest::firstOnesGoOut);
  }

  private static void refusals(Edges edges) {
    edges
        .of(Edges.TERMS, "of several the first as told by each call", EdgesOfTermsTest::firstRefusal)
        .of(Edges.TERMS, "they change nothing", EdgesOfTermsTest::refusalsChangeNothing);
  }

  private static void oneToSixPorts(Check check) {
    check.due("none", Check.withPage("").board(), BoundPorts.STATE);
    check.due("one", Check.withPage("00").board(), 1);
    check.due("six", Check.withPage(SIX).board(), 6);
    BoundPorts seven = Check.withPage(SIX);
    check.due("a ',' for a seventh", seven.letter(','), BoundPorts.FULL);
    check.due("the six", seven.board(), 6);
    check.due("the last PORT", seven.of(5, 1), 5);
    check.due("the PORT behind", seven.of(6, 1), BoundPorts.UNKNOWN);
    String[] between = {"0001", "00 01", "00;01", "00-01", "00,,01", ",00", "00,01,"};
    for (String text : between) {
      check.due("board() of '" + text + "'", Check.withPage(text).board(), BoundPorts.STATE);
    }
  }

  private static void figureOfKey(Check check) {
    String[] right = {"05", "35"};
    for (String port : right) {
      check.due("board() of " + port, Check.withPage(port).board(), 1);
      check.due("KEY", Check.withBoard(port).of(0, 0), port.charAt(0) - '0');
      check.due("KEY of the last", Check.withBoard("11," + port).of(1, 0), port.charAt(0) - '0');
    }
    String[] wrong = {"/5", "45", "95", " 5", ",5", "~5"};
    for (String port : wrong) {
      check.due("board() of " + port, Check.withPage(port).board(), BoundPorts.STATE);
      check.due("fault() of " + port, Check.withPage(port).fault(), 0);
      check.due("fault() of the last", Check.withPage("11," + port).fault(), 3);
    }
  }

  private static void figureOfRank(Check check) {
    String[] right = {"20", "29"};
    for (String port : right) {
      check.due("board() of " + port, Check.withPage(port).board(), 1);
      check.due("RANK", Check.withBoard(port).of(0, 1), port.charAt(1) - '0');
      check.due("RANK of the last", Check.withBoard("11," + port).of(1, 1), port.charAt(1) - '0');
    }
    String[] wrong = {"2/", "2:", "2 ", "2,", "2~"};
    for (String port : wrong) {
      check.due("board() of " + port, Check.withPage(port).board(), BoundPorts.STATE);
      check.due("fault() of " + port, Check.withPage(port).fault(), 1);
      check.due("fault() of the last", Check.withPage("11," + port).fault(), 4);
    }
  }

  private static void theLastCall(Check check) {
    BoundPorts x = Check.withBoard("00");
    x.set(1, 0);
    x.up(0, true);
    x.hear(0, 1, 0, true);
    for (int call = 7; call <= 510; call++) {
      x.send(0);
    }
    check.due("call 511: LOST", x.flow(0, 5), 496);
    check.due("call 512: sent", x.flow(0, 3), 504);
    BoundPorts waiting = Check.withBoard("00");
    for (int call = 4; call <= 511; call++) {
      waiting.tick(50);
    }
    check.due("call 512: TICKS", waiting.count(5), 508 * 50);
    BoundPorts often = new BoundPorts();
    for (int i = 0; i < 170; i++) {
      Check.type(often, "00");
      often.board();
    }
    check.due("call 511: how often a BOARD was read", often.count(11), 170);
  }

  private static void downAtFirst(Check check) {
    BoundPorts x = Check.withBoard(SIX);
    for (int port = 0; port < 6; port++) {
      check.due("UP", x.of(port, 2), 0);
      check.due("hear()", x.hear(port, 1, 0, true), BoundPorts.STATE);
    }
    Check.hearAll(x);
    Check.type(x, SIX);
    x.board();
    for (int port = 0; port < 6; port++) {
      check.due("UP on another BOARD", x.of(port, 2), 0);
    }
  }

  private static void leastAndMostHeard(Check check) {
    BoundPorts x = Check.withBoard("00");
    x.up(0, true);
    int[][] right = {{1, 0}, {9, 0}, {1, 3}, {9, 3}};
    for (int[] r : right) {
      check.due("hear()", x.hear(0, r[0], r[1], true), 0);
      check.due("PARTNER", x.of(0, 3), r[0]);
      check.due("PARTNER's KEY", x.of(0, 4), r[1]);
    }
    int[][] wrong = {{0, 0}, {10, 3}, {1, -1}, {9, 4}, {0, -1}, {10, 4}, {-1, 0}};
    for (int[] w : wrong) {
      check.refused(x, "hear()", BoundPorts.OUTSIDE, () -> x.hear(0, w[0], w[1], true));
    }
  }

  private static void latestHolds(Check check) {
    BoundPorts x = Check.withBoard("00");
    x.up(0, true);
    x.hear(0, 1, 0, true);
    check.due("AGE", x.of(0, 6), 0);
    x.tick(3);
    check.due("AGE ahead of the latest", x.of(0, 6), 3);
    x.hear(0, 9, 3, false);
    int[] due = {9, 3, 0, 0};
    for (int what = 3; what <= 6; what++) {
      check.due("of(0, " + what + ")", x.of(0, what), due[what - 3]);
    }
    x.tick(3);
    check.due("the latest is there three TICKS more", x.of(0, 3), 9);
  }

  private static void downForgets(Check check) {
    BoundPorts x = Check.carrying("00", 1);
    x.up(0, true);
    check.due("UP again while it is UP: nothing is forgotten", x.of(0, 3), 1);
    x.up(0, false);
    x.up(0, true);
    for (int what = 3; what <= 6; what++) {
      check.due("of(0, " + what + ")", x.of(0, what), BoundPorts.NONE);
    }
    check.due("LEAD", x.key(0, 0), BoundPorts.NONE);
  }

  private static void alike(Check check) {
    BoundPorts x = Check.withBoard("00,01,10");
    for (int port = 0; port < 3; port++) {
      x.up(port, true);
    }
    check.due("nothing HEARD at both", x.key(0, 1), 0);
    x.hear(0, 1, 0, true);
    check.due("nothing HEARD at one", x.key(0, 1), 1);
    x.hear(1, 1, 0, false);
    check.due("READY or not is all one", x.key(0, 1), 3);
    x.hear(1, 2, 0, true);
    check.due("another PARTNER", x.key(0, 1), 1);
    x.hear(1, 1, 1, true);
    check.due("another KEY of the PARTNER", x.key(0, 1), 1);
    x.hear(1, 1, 0, true);
    x.hear(2, 1, 0, true);
    check.due("another KEY is apart", x.key(0, 1), 3);
    check.due("and has its own", x.key(1, 1), 4);
    check.due("and its own LEAD", x.key(1, 0), 2);
  }

  private static void lead(Check check) {
    BoundPorts x = Check.withBoard("09,05,05,00");
    check.due("none", x.key(0, 0), BoundPorts.NONE);
    for (int port = 0; port < 3; port++) {
      x.up(port, true);
    }
    x.hear(0, 1, 0, true);
    check.due("the only one, of RANK 9", x.key(0, 0), 0);
    x.hear(2, 1, 0, true);
    check.due("less RANK, greater number", x.key(0, 0), 2);
    x.hear(1, 1, 0, true);
    check.due("like RANK, less number", x.key(0, 0), 1);
    x.rank(0, 5);
    check.due("three of like RANK", x.key(0, 0), 0);
    x.tick(4);
    check.due("none again", x.key(0, 0), BoundPorts.NONE);
  }

  private static void chosenOfLikeRank(Check check) {
    BoundPorts x = Check.carrying("07,07,07,07", 2);
    check.due("all of like RANK", x.key(0, 1), 1 | 2);
    x.rank(3, 6);
    check.due("the last one is ahead", x.key(0, 1), 8 | 1);
    x.rank(0, 8);
    check.due("the first one is behind", x.key(0, 1), 8 | 2);
    x.rank(0, 7);
    check.due("and like again", x.key(0, 1), 8 | 1);
  }

  private static void width(Check check) {
    BoundPorts x = Check.withBoard(SIX);
    Check.hearAll(x);
    check.due("CHOSEN at first", x.key(0, 1), 3);
    check.due("SPARE at first", x.key(0, 2), 60);
    for (int width = 1; width <= 6; width++) {
      x.set(0, width);
      check.due("CHOSEN, WIDTH " + width, x.key(0, 1), (1 << width) - 1);
      check.due("SPARE, WIDTH " + width, x.key(0, 2), 64 - (1 << width));
    }
    check.due("WIDTH 7", x.set(0, 7), BoundPorts.OUTSIDE);
    check.due("WIDTH 0", x.set(0, 0), BoundPorts.OUTSIDE);
    check.due("CHOSEN yet", x.key(0, 1), 63);
  }

  private static void noneIsSpare(Check check) {
    BoundPorts x = Check.carrying("00,01,02", 3);
    check.due("as many as WIDTH", x.key(0, 2), 0);
    x.set(0, 6);
    check.due("fewer than WIDTH", x.key(0, 2), 0);
    check.due("CHOSEN", x.key(0, 1), 7);
    x.set(0, 2);
    check.due("one more than WIDTH", x.key(0, 2), 4);
    x.hear(2, 2, 0, true);
    check.due("one that is not ALIKE is not SPARE", x.key(0, 2), 0);
    check.due("it is none of these", x.of(2, 7), 0);
  }

  private static void attachedByWait(Check check) {
    for (int wait = 0; wait <= 9; wait++) {
      BoundPorts x = Check.withBoard("00");
      x.up(0, true);
      x.hear(0, 1, 0, false);
      check.due("at first", x.of(0, 7), 2);
      x.set(1, wait);
      for (int ticks = 0; ticks <= 10; ticks++) {
        check.due("WAIT " + wait + ", TICK " + ticks, x.of(0, 7), ticks >= wait ? 3 : 2);
        x.hear(0, 1, 0, false);
        x.tick(1);
      }
    }
    BoundPorts first = Check.withBoard("00");
    Check.hearAll(first);
    first.tick(1);
    check.due("WAIT at first, one TICK", first.of(0, 7), 2);
    first.tick(1);
    check.due("WAIT at first, two TICKS", first.of(0, 7), 4);
  }

  private static void carries(Check check) {
    BoundPorts x = Check.withBoard("00");
    Check.hearAll(x);
    check.due("READY, not ATTACHED", x.key(0, 3), 0);
    x.set(1, 0);
    check.due("READY and ATTACHED", x.key(0, 3), 1);
    x.hear(0, 1, 0, false);
    check.due("ATTACHED, not READY", x.key(0, 3), 0);
    check.due("CHOSEN yet", x.key(0, 1), 1);
  }

  private static void atOnce(Check check) {
    BoundPorts x = Check.withBoard("00,01");
    Check.hearAll(x);
    x.tick(1);
    check.due("not yet", x.way(0), BoundPorts.NONE);
    x.set(1, 1);
    check.due("by WAIT", x.way(4), 1);
    x.set(0, 1);
    check.due("by WIDTH", x.way(4), 0);
    x.rank(0, 2);
    check.due("by RANK: another is CHOSEN, and has not WAITED", x.way(4), BoundPorts.NONE);
    check.due("CHOSEN", x.key(0, 1), 2);
    x.set(1, 0);
    check.due("by WAIT 0", x.way(4), 1);
    x.up(1, false);
    check.due("as one is DOWN", x.way(4), 0);
    x.set(0, 2);
    x.up(1, true);
    x.hear(1, 1, 0, true);
    x.set(2, 1);
    check.due("by SHIFT", x.way(4), 0);
  }

  private static void forgottenByFour(Check check) {
    BoundPorts x = Check.carrying("00", 1);
    for (int age = 0; age <= 3; age++) {
      check.due("AGE", x.of(0, 6), age);
      check.due("PARTNER", x.of(0, 3), 1);
      x.tick(1);
    }
    check.due("AGE", x.of(0, 6), BoundPorts.NONE);
    check.due("WAITED", x.of(0, 8), 0);
    check.due("it is UP yet", x.of(0, 2), 1);
    BoundPorts again = Check.carrying("00", 1);
    again.tick(3);
    again.hear(0, 1, 0, true);
    again.tick(3);
    check.due("HEARD again in time", again.of(0, 8), 6);
    again.tick(1);
    check.due("and not again", again.of(0, 6), BoundPorts.NONE);
    BoundPorts many = Check.carrying("00", 1);
    many.tick(50);
    check.due("forgotten once alone", many.of(0, 6), BoundPorts.NONE);
  }

  private static void waitedAsItIsChosenByForgetting(Check check) {
    BoundPorts x = Check.carrying("00,01", 1);
    x.tick(3);
    x.hear(1, 1, 0, true);
    check.due("SPARE ahead of the TICK", x.of(1, 7), 1);
    x.tick(1);
    check.due("CHOSEN in it", x.of(1, 8), 1);
    check.due("what is forgotten in it has not WAITED", x.of(0, 8), 0);
  }

  private static void waitedNineAtMost(Check check) {
    BoundPorts x = Check.carrying("00,01", 1);
    for (int ticks = 1; ticks <= 11; ticks++) {
      Check.hearAll(x);
      x.tick(1);
      check.due("WAITED", x.of(0, 8), Math.min(ticks, 9));
      check.due("WAITED of a SPARE one", x.of(1, 8), 0);
    }
    x.rank(0, 2);
    check.due("not CHOSEN", x.of(0, 8), 0);
    x.rank(0, 0);
    check.due("CHOSEN anew", x.of(0, 8), 0);
    check.due("the other one was CHOSEN for no TICK", x.of(1, 8), 0);
  }

  private static void firstOnesGoOut(Check check) {
    BoundPorts x = Check.carrying("00,10,01", 2);
    check.due("empty QUEUES", x.tick(1), 0);
    x.send(0);
    x.send(4);
    x.send(4);
    check.due("an empty one between", x.tick(1), 2);
    check.due("the other one of the QUEUE", x.queue(2, 0), 402);
    x.hear(2, 1, 0, false);
    check.due("out of one that CARRIES no more", x.tick(1), 1);
    x.send(0);
    x.up(0, false);
    check.due("nothing out of one that is DOWN", x.tick(1), 0);
  }

  private static void firstRefusal(Check check) {
    BoundPorts full = Check.withPage(SIX);
    check.due("letter(): OUTSIDE ahead of FULL", full.letter(127), BoundPorts.OUTSIDE);
    check.due("letter(): FULL", full.letter(126), BoundPorts.FULL);
    BoundPorts none = new BoundPorts();
    check.due("send(): UNKNOWN ahead of STATE", none.send(12), BoundPorts.UNKNOWN);
    check.due("send(): STATE", none.send(11), BoundPorts.STATE);
    check.due("tick(): OUTSIDE ahead of STATE", none.tick(51), BoundPorts.OUTSIDE);
    check.due("tick(): STATE", none.tick(50), BoundPorts.STATE);
    BoundPorts x = Check.withBoard("00");
    check.due("rank(): UNKNOWN ahead of OUTSIDE", x.rank(1, 10), BoundPorts.UNKNOWN);
    check.due("rank(): OUTSIDE", x.rank(0, 10), BoundPorts.OUTSIDE);
    check.due("hear(): UNKNOWN ahead of OUTSIDE", x.hear(1, 0, 4, true), BoundPorts.UNKNOWN);
    check.due("hear(): OUTSIDE ahead of STATE", x.hear(0, 0, 0, true), BoundPorts.OUTSIDE);
    check.due("hear(): OUTSIDE ahead of STATE", x.hear(0, 1, 4, true), BoundPorts.OUTSIDE);
    check.due("hear(): STATE", x.hear(0, 1, 0, true), BoundPorts.STATE);
    check.due("of(): UNKNOWN ahead of OUTSIDE", x.of(1, 10), BoundPorts.UNKNOWN);
    check.due("of(): OUTSIDE", x.of(0, 10), BoundPorts.OUTSIDE);
    check.due("key(): UNKNOWN ahead of OUTSIDE", x.key(4, 4), BoundPorts.UNKNOWN);
    check.due("key(): OUTSIDE", x.key(3, 4), BoundPorts.OUTSIDE);
    check.due("flow(): UNKNOWN ahead of OUTSIDE", x.flow(12, 7), BoundPorts.UNKNOWN);
    check.due("flow(): OUTSIDE", x.flow(11, 7), BoundPorts.OUTSIDE);
  }

  private static void refusalsChangeNothing(Check check) {
    BoundPorts x = Check.carrying("00,01,12", 2);
    Check.send(x, 0, 9);
    Check.send(x, 4, 2);
    x.set(2, 1);
    Check.send(x, 0, 9);
    x.tick(1);
    x.up(2, false);
    Check.type(x, "01,02,03,04,05,0x");
    check.refused(x, "letter(31)", BoundPorts.OUTSIDE, () -> x.letter(31));
    check.refused(x, "letter(48)", BoundPorts.FULL, () -> x.letter(48));
    check.refused(x, "board()", BoundPorts.STATE, x::board);
    check.refused(x, "set(0, 7)", BoundPorts.OUTSIDE, () -> x.set(0, 7));
    check.refused(x, "set(3, 1)", BoundPorts.OUTSIDE, () -> x.set(3, 1));
    check.refused(x, "rank(3, 1)", BoundPorts.UNKNOWN, () -> x.rank(3, 1));
    check.refused(x, "rank(0, 10)", BoundPorts.OUTSIDE, () -> x.rank(0, 10));
    check.refused(x, "up(3, false)", BoundPorts.UNKNOWN, () -> x.up(3, false));
    check.refused(x, "hear(3, 1, 0, true)", BoundPorts.UNKNOWN, () -> x.hear(3, 1, 0, true));
    check.refused(x, "hear(0, 10, 0, true)", BoundPorts.OUTSIDE, () -> x.hear(0, 10, 0, true));
    check.refused(x, "hear(2, 1, 0, true)", BoundPorts.STATE, () -> x.hear(2, 1, 0, true));
    check.refused(x, "send(12)", BoundPorts.UNKNOWN, () -> x.send(12));
    check.refused(x, "tick(0)", BoundPorts.OUTSIDE, () -> x.tick(0));
    check.due("MOVING yet", x.flow(0, 1), 1);
    check.due("HELD yet", x.flow(0, 2), 8);
  }
}
