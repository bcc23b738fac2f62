/** The boundary cases of promises 1 to 5: a new object, letter, blank, fault, board. */
public final class EdgesOfTextsTest {
  private static final String SIX = "00,19,25,33,08,17";

  public static void main(String[] args) {
    new Edges()
        .of(1, "No BOARD", EdgesOfTextsTest::noBoard)
        .of(2, "how many THE PAGE has", EdgesOfTextsTest::firstToLastLetter)
        .of(2, "OUTSIDE: code (32 to 126)", EdgesOfTextsTest::leastAndMostCode)
        .of(2, "FULL: there are 17", EdgesOfTextsTest::fullPage)
        .of(3, "THE PAGE is empty: how many letters it had", EdgesOfTextsTest::blankOfEmptyAndFull)
        .of(4, "The place (from 0) of the first letter of THE PAGE",
            EdgesOfTextsTest::firstAndLastPlace)
        .of(4, "with which, and those ahead of it, no BOARD begins", EdgesOfTextsTest::beginnings)
        .of(4, "how many letters it has, if there is none", EdgesOfTextsTest::noFault)
        .of(5, "THE PAGE is read as a BOARD", EdgesOfTextsTest::smallestAndLargest)
        .of(5, "(another one is gone, with all that was of it, and all of FLOWS",
            EdgesOfTextsTest::anotherIsGone)
        .of(5, "WIDTH, WAIT, SHIFT stay)", EdgesOfTextsTest::settingsStay)
        .of(5, "THE PAGE is empty then", EdgesOfTextsTest::pageIsEmptyThen)
        .of(5, "STATE: it is none", EdgesOfTextsTest::noneIsWritten)
        .end(1, 5);
  }

  private static void noBoard(Check check) {
    BoundPorts x = new BoundPorts();
    int[] counts = {0, 0, 2, 2, 0, 0, 0, 0, 0, 0, 0, 0};
    for (int what = 0; what < counts.length; what++) {
      check.due("count(" + what + ")", x.count(what), counts[what]);
    }
    for (int flow = 0; flow <= 11; flow++) {
      for (int what = 1; what <= 6; what++) {
        check.due("flow(" + flow + ", " + what + ")", x.flow(flow, what), 0);
      }
    }
    check.refused(x, "of()", BoundPorts.UNKNOWN, () -> x.of(0, 0));
    check.refused(x, "queue()", BoundPorts.UNKNOWN, () -> x.queue(0, 0));
    check.refused(x, "rank()", BoundPorts.UNKNOWN, () -> x.rank(0, 0));
    check.refused(x, "up()", BoundPorts.UNKNOWN, () -> x.up(0, true));
    check.refused(x, "hear()", BoundPorts.UNKNOWN, () -> x.hear(0, 1, 0, true));
    check.refused(x, "send()", BoundPorts.STATE, () -> x.send(0));
    check.refused(x, "tick()", BoundPorts.STATE, () -> x.tick(1));
    check.due("LEAD of the last KEY", x.key(3, 0), BoundPorts.NONE);
    check.due("WAY of the last FLOW", x.way(11), BoundPorts.NONE);
    check.due("the last FLOW is on none", x.flow(11, 0), BoundPorts.NONE);
    check.due("WIDTH can be set", x.set(0, 6), 2);
    check.due("WAIT can be set", x.set(1, 9), 2);
    check.due("SHIFT can be set", x.set(2, 9), 0);
  }

  private static void firstToLastLetter(Check check) {
    BoundPorts x = new BoundPorts();
    for (int many = 1; many <= 17; many++) {
      check.due("letter " + many, x.letter('~'), many);
    }
    check.due("letters of THE PAGE", x.count(1), 17);
  }

  private static void leastAndMostCode(Check check) {
    BoundPorts x = new BoundPorts();
    check.due("letter(32)", x.letter(32), 1);
    check.due("letter(126)", x.letter(126), 2);
    int[] outside = {31, 127, 0, -1, -32, 128, 32 + 256, 48 + 65536, Integer.MIN_VALUE,
      Integer.MAX_VALUE};
    for (int code : outside) {
      check.refused(x, "letter(" + code + ")", BoundPorts.OUTSIDE, () -> x.letter(code));
    }
    check.due("the next one", x.letter(33), 3);
  }

  private static void fullPage(Check check) {
    BoundPorts x = Check.withPage(SIX.substring(0, 16));
    check.due("the 17th", x.letter('7'), 17);
    check.refused(x, "the 18th", BoundPorts.FULL, () -> x.letter(','));
    check.refused(x, "the 18th again", BoundPorts.FULL, () -> x.letter('0'));
    check.due("the 17 are as they were", x.board(), 6);
    check.due("there is room again", x.letter(','), 1);
    BoundPorts blanked = Check.withPage(SIX);
    blanked.blank();
    check.due("there is room behind blank()", blanked.letter(','), 1);
  }

  private static void blankOfEmptyAndFull(Check check) {
    BoundPorts x = new BoundPorts();
    check.due("blank() of an empty PAGE", x.blank(), 0);
    x.letter('x');
    check.due("blank() of one letter", x.blank(), 1);
    check.due("blank() again", x.blank(), 0);
    Check.type(x, SIX);
    check.due("blank() of a full PAGE", x.blank(), 17);
    check.due("letters of THE PAGE", x.count(1), 0);
    check.due("fault() of what is empty", x.fault(), 0);
    check.due("board() of what is empty", x.board(), BoundPorts.STATE);
    BoundPorts y = Check.carrying("00,01", 2);
    y.send(0);
    long before = y.digest();
    Check.type(y, "0");
    y.blank();
    check.due("a BOARD is not touched", y.digest(), before);
  }

  private static void firstAndLastPlace(Check check) {
    check.due("the first letter", Check.withPage("x").fault(), 0);
    check.due("the first letter of many", Check.withPage("," + SIX.substring(1)).fault(), 0);
    check.due("the last letter of 17", Check.withPage(SIX.substring(0, 16) + ",").fault(), 16);
    check.due("the first of several", Check.withPage("00xyz").fault(), 2);
    check.due("of 17 that are wrong", Check.withPage("~~~~~~~~~~~~~~~~~").fault(), 0);
    BoundPorts x = Check.withPage("0x");
    long before = x.digest();
    x.fault();
    check.due("fault() changes nothing", x.digest(), before);
  }

  private static void beginnings(Check check) {
    String[] begun = {"0", "3", "00,", "39,3", "00,19,"};
    for (String text : begun) {
      check.due("fault() of '" + text + "'", Check.withPage(text).fault(), text.length());
      check.due("board() of '" + text + "'", Check.withPage(text).board(), BoundPorts.STATE);
    }
    String[] wrong = {"4", "0:", "00;", "00,4", "00,0,"};
    for (String text : wrong) {
      check.due("fault() of '" + text + "'", Check.withPage(text).fault(), text.length() - 1);
    }
    check.due("a PORT of three figures", Check.withPage("000").fault(), 2);
    check.due("nothing between two ','", Check.withPage("00,,00").fault(), 3);
  }

  private static void noFault(Check check) {
    check.due("an empty PAGE", new BoundPorts().fault(), 0);
    check.due("a full PAGE", Check.withPage(SIX).fault(), 17);
    check.due("a PAGE behind a BOARD", Check.withBoard(SIX).fault(), 0);
  }

  private static void smallestAndLargest(Check check) {
    BoundPorts one = Check.withPage("39");
    check.due("one PORT", one.board(), 1);
    check.due("KEY", one.of(0, 0), 3);
    check.due("RANK", one.of(0, 1), 9);
    check.due("no second PORT", one.of(1, 0), BoundPorts.UNKNOWN);
    BoundPorts six = Check.withPage(SIX);
    check.due("six PORTS", six.board(), 6);
    for (int port = 0; port < 6; port++) {
      check.due("KEY of " + port, six.of(port, 0), SIX.charAt(3 * port) - '0');
      check.due("RANK of " + port, six.of(port, 1), SIX.charAt(3 * port + 1) - '0');
    }
    check.due("no seventh PORT", six.of(6, 0), BoundPorts.UNKNOWN);
  }

  /** Six busy PORTS are replaced by one and by six again: nothing of the first six comes back. */
  private static void anotherIsGone(Check check) {
    BoundPorts x = Check.carrying("00,01,02,03,04,05", 6);
    for (int flow = 0; flow <= 8; flow += 4) {
      Check.send(x, flow, 2);
    }
    x.set(2, 3);
    for (int flow = 0; flow <= 8; flow += 4) {
      Check.send(x, flow, 9);
    }
    x.tick(1);
    check.due("HELD", x.count(9), 24);
    check.due("LOST", x.count(8), 3);
    Check.type(x, "05");
    check.due("board() of one", x.board(), 1);
    check.due("the second PORT is gone", x.of(1, 0), BoundPorts.UNKNOWN);
    BoundPorts one = Check.withBoard("05");
    sameFlowsAndCounts(check, x, one);
    Check.type(x, SIX);
    check.due("board() of six", x.board(), 6);
    BoundPorts six = Check.withBoard(SIX);
    sameFlowsAndCounts(check, x, six);
    for (int port = 0; port < 6; port++) {
      for (int what = 0; what <= 9; what++) {
        check.due("of(" + port + ", " + what + ")", x.of(port, what), six.of(port, what));
      }
    }
  }

  private static void sameFlowsAndCounts(Check check, BoundPorts x, BoundPorts fresh) {
    for (int flow = 0; flow <= 8; flow += 4) {
      for (int what = 0; what <= 6; what++) {
        check.due("flow(" + flow + ", " + what + ")", x.flow(flow, what), fresh.flow(flow, what));
      }
    }
    for (int what = 5; what <= 10; what++) {
      check.due("count(" + what + ")", x.count(what), 0);
    }
  }

  private static void settingsStay(Check check) {
    BoundPorts x = Check.withBoard("00");
    x.set(0, 6);
    x.set(1, 9);
    x.set(2, 8);
    Check.type(x, SIX);
    x.board();
    check.due("WIDTH", x.count(2), 6);
    check.due("WAIT", x.count(3), 9);
    check.due("SHIFT", x.count(4), 8);
    BoundPorts ahead = new BoundPorts();
    ahead.set(0, 1);
    Check.type(ahead, "00");
    ahead.board();
    check.due("WIDTH that was set ahead of the first BOARD", ahead.count(2), 1);
  }

  private static void pageIsEmptyThen(Check check) {
    BoundPorts x = Check.withPage(SIX);
    x.board();
    check.due("letters of THE PAGE", x.count(1), 0);
    check.due("blank()", x.blank(), 0);
    check.refused(x, "board() again", BoundPorts.STATE, x::board);
    check.due("the BOARD is there yet", x.count(0), 6);
  }

  private static void noneIsWritten(Check check) {
    String[] none = {"", "0", "00,", "00,1", "40", "0:", "00 ", " 00", "00.11", "00,11,", "00,11,2",
      ",", "00,4", "0000", "00,19,25,33,08,1,", "00,19,25,33,08,47", "00,19,25,33,08,1"};
    for (String text : none) {
      BoundPorts x = Check.carrying("05,03", 2);
      x.send(0);
      Check.type(x, text);
      check.refused(x, "board() of '" + text + "'", BoundPorts.STATE, x::board);
      check.due("letters stay", x.count(1), text.length());
    }
  }
}
