/** Promises 1 to 5: a new object, letter, blank, fault, board. */
public final class TextsTest {
  private static final String SIX = "00,19,25,33,08,17";

  public static void main(String[] args) {
    Check check = new Check();
    newObject(check);
    letterCounts(check);
    letterRefuses(check);
    blankEmpties(check);
    faultOfBeginnings(check);
    faultOfWrongLetters(check);
    boardIsRead(check);
    boardRefuses(check);
    boardReplacesAll(check);
    smallerBoardHidesPorts(check);
    check.end();
  }

  private static void newObject(Check check) {
    BoundPorts x = new BoundPorts();
    int[] due = {0, 0, 2, 2, 0, 0, 0, 0, 0, 0, 0, 0};
    for (int what = 0; what < due.length; what++) {
      check.due("count(" + what + ") of a new object", x.count(what), due[what]);
    }
    for (int flow = 0; flow < 12; flow++) {
      check.due("way of a new object", x.way(flow), BoundPorts.NONE);
      check.due("flow ON of a new object", x.flow(flow, 0), BoundPorts.NONE);
      for (int what = 1; what <= 6; what++) {
        check.due("flow of a new object", x.flow(flow, what), 0);
      }
    }
    for (int key = 0; key < 4; key++) {
      check.due("lead of a new object", x.key(key, 0), BoundPorts.NONE);
      for (int what = 1; what <= 3; what++) {
        check.due("key of a new object", x.key(key, what), 0);
      }
    }
    check.refused(x, "of(0, 0)", BoundPorts.UNKNOWN, () -> x.of(0, 0));
    check.refused(x, "queue(0, 0)", BoundPorts.UNKNOWN, () -> x.queue(0, 0));
    check.refused(x, "rank(0, 0)", BoundPorts.UNKNOWN, () -> x.rank(0, 0));
    check.refused(x, "up(0, true)", BoundPorts.UNKNOWN, () -> x.up(0, true));
    check.refused(x, "hear(0, 1, 0, true)", BoundPorts.UNKNOWN, () -> x.hear(0, 1, 0, true));
    check.refused(x, "send(0)", BoundPorts.STATE, () -> x.send(0));
    check.refused(x, "tick(1)", BoundPorts.STATE, () -> x.tick(1));
    check.refused(x, "board()", BoundPorts.STATE, x::board);
  }

  private static void letterCounts(Check check) {
    BoundPorts x = new BoundPorts();
    for (int i = 1; i <= 17; i++) {
      check.due("letter " + i, x.letter(i % 2 == 0 ? 32 : 126), i);
      check.due("count(1)", x.count(1), i);
    }
  }

  private static void letterRefuses(Check check) {
    BoundPorts x = new BoundPorts();
    int[] outside = {31, 127, 0, -1, 48 + 256, Integer.MIN_VALUE, Integer.MAX_VALUE};
    for (int code : outside) {
      check.refused(x, "letter(" + code + ")", BoundPorts.OUTSIDE, () -> x.letter(code));
    }
    Check.type(x, SIX);
    check.refused(x, "an 18th letter", BoundPorts.FULL, () -> x.letter(','));
    check.refused(x, "an 18th letter that is none", BoundPorts.OUTSIDE, () -> x.letter(31));
  }

  private static void blankEmpties(Check check) {
    BoundPorts x = new BoundPorts();
    check.due("blank() of an empty page", x.blank(), 0);
    Check.type(x, "x?!");
    check.due("blank()", x.blank(), 3);
    check.due("count(1)", x.count(1), 0);
    Check.type(x, SIX);
    check.due("blank() of a full page", x.blank(), 17);
    check.due("letter behind blank()", x.letter('0'), 1);
  }

  private static void faultOfBeginnings(Check check) {
    for (int length = 0; length <= SIX.length(); length++) {
      BoundPorts x = new BoundPorts();
      Check.type(x, SIX.substring(0, length));
      check.due("fault() of " + length + " right letters", x.fault(), length);
      check.due("count(1)", x.count(1), length);
    }
  }

  private static void faultOfWrongLetters(Check check) {
    for (int place = 0; place < SIX.length(); place++) {
      for (int code = 32; code <= 126; code++) {
        BoundPorts x = new BoundPorts();
        Check.type(x, SIX.substring(0, place) + (char) code + SIX.substring(place + 1));
        check.due("fault() with " + code + " at " + place, x.fault(),
            isRight(place, code) ? SIX.length() : place);
      }
    }
    BoundPorts x = new BoundPorts();
    Check.type(x, "00x1y");
    check.due("fault() with two wrong ones", x.fault(), 2);
  }

  private static boolean isRight(int place, int code) {
    String right = place % 3 == 0 ? "0123" : place % 3 == 1 ? "0123456789" : ",";
    return right.indexOf(code) >= 0;
  }

  private static void boardIsRead(Check check) {
    for (int ports = 1; ports <= 6; ports++) {
      BoundPorts x = new BoundPorts();
      Check.type(x, SIX.substring(0, 3 * ports - 1));
      check.due("board() of " + ports, x.board(), ports);
      check.due("PORTS", x.count(0), ports);
      check.due("letters", x.count(1), 0);
      check.due("boards read", x.count(11), 1);
      for (int port = 0; port < ports; port++) {
        check.due("KEY", x.of(port, 0), SIX.charAt(3 * port) - '0');
        check.due("RANK", x.of(port, 1), SIX.charAt(3 * port + 1) - '0');
        check.due("UP", x.of(port, 2), 0);
        for (int what = 3; what <= 6; what++) {
          check.due("HEARD", x.of(port, what), BoundPorts.NONE);
        }
        for (int what = 7; what <= 9; what++) {
          check.due("of a new PORT", x.of(port, what), 0);
        }
      }
      check.due("the PORT behind", x.of(ports, 0), BoundPorts.UNKNOWN);
    }
  }

  private static void boardRefuses(Check check) {
    String[] none = {"", "0", "40", "0:", "00,", "00,1", "00;11", " 00", "00,,11", "00,1a", "0000"};
    for (String text : none) {
      BoundPorts x = Check.carrying("05,03", 2);
      Check.type(x, text);
      check.refused(x, "board() of '" + text + "'", BoundPorts.STATE, x::board);
      check.due("letters stay", x.count(1), text.length());
      check.due("the old board stays", x.count(0), 2);
    }
  }

  private static void boardReplacesAll(Check check) {
    BoundPorts x = Check.carrying("05,03,12", 2);
    x.set(2, 1);
    Check.send(x, 0, 4);
    Check.send(x, 4, 2);
    x.set(2, 0);
    Check.send(x, 0, 12);
    Check.send(x, 4, 1);
    x.tick(3);
    check.due("MARKERS ANSWERED", x.count(10), 1);
    check.due("latest of 0", x.flow(0, 6), 3);
    check.due("HELD", x.count(9), 8);
    check.due("LOST", x.count(8), 4);
    x.set(0, 3);
    x.set(1, 7);
    x.set(2, 4);
    Check.type(x, "05,03,12");
    check.due("board()", x.board(), 3);
    BoundPorts fresh = Check.withBoard("05,03,12");
    fresh.set(0, 3);
    fresh.set(1, 7);
    fresh.set(2, 4);
    for (int what = 0; what <= 10; what++) {
      check.due("count(" + what + ")", x.count(what), fresh.count(what));
    }
    check.due("how often a BOARD was read", x.count(11), 2);
    Check.type(fresh, "05,03,12");
    fresh.board();
    check.due("digest() of another board", x.digest(), fresh.digest());
  }

  private static void smallerBoardHidesPorts(Check check) {
    BoundPorts x = Check.carrying("00,01,02", 3);
    Check.type(x, "00");
    x.board();
    check.refused(x, "of(1, 0)", BoundPorts.UNKNOWN, () -> x.of(1, 0));
    check.due("CHOSEN", x.key(0, 1), 0);
    check.due("LEAD", x.key(0, 0), BoundPorts.NONE);
    check.due("way", x.way(0), BoundPorts.NONE);
    Check.type(x, "00,01,02");
    x.board();
    check.due("UP in the third board", x.of(2, 2), 0);
    check.due("HEARD in the third board", x.of(2, 3), BoundPorts.NONE);
    check.due("WAITED in the third board", x.of(2, 8), 0);
  }
}
