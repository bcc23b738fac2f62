import java.math.BigInteger;
import java.util.ArrayList;
import java.util.List;

/** The boundary cases of promises 17 and 18: count, digest. */
public final class EdgesOfAllTest {
  private static final int LEAST = Integer.MIN_VALUE;
  private static final int MOST = Integer.MAX_VALUE;

  public static void main(String[] args) {
    new Edges()
        .of(17, "0 PORTS, 1 letters of THE PAGE", EdgesOfAllTest::emptyAndFull)
        .of(17, "2 WIDTH, 3 WAIT, 4 SHIFT", EdgesOfAllTest::settings)
        .of(17, "5 TICKS since the BOARD was read", EdgesOfAllTest::ticksBeginAnew)
        .of(17, "6 LETTERS sent, 7 DELIVERED, 8 LOST, 9 HELD now", EdgesOfAllTest::sumsOverFlows)
        .of(17, "10 MARKERS that were ANSWERED", EdgesOfAllTest::markersByTickAndByDown)
        .of(17, "all since the BOARD was read", EdgesOfAllTest::allBeginAnew)
        .of(17, "11 how often a BOARD was read", EdgesOfAllTest::howOften)
        .of(17, "OUTSIDE.", EdgesOfAllTest::countOutside)
        .of(18, "h is 1741", EdgesOfAllTest::digestOfANewObject)
        .of(18, "31 times h, and it (as longs, wrapping)", EdgesOfAllTest::digestWraps)
        .of(18, "of each PORT of() for 0 to 9, each queue() of it", EdgesOfAllTest::digestOfQueues)
        .of(18, "each letter of THE PAGE by its code", EdgesOfAllTest::digestOfLetters)
        .end(17, 18);
  }

  private static BoundPorts moving() {
    BoundPorts x = Check.carrying("00,01,02,03,04,05", 6);
    for (int flow = 0; flow <= 8; flow += 4) {
      Check.send(x, flow, 9);
    }
    x.set(2, 3);
    for (int flow = 0; flow <= 8; flow += 4) {
      Check.send(x, flow, 9);
    }
    return x;
  }

  private static void emptyAndFull(Check check) {
    BoundPorts x = new BoundPorts();
    check.due("PORTS, no BOARD", x.count(0), 0);
    check.due("an empty PAGE", x.count(1), 0);
    Check.type(x, "00,01,02,03,04,05!");
    check.due("a full PAGE", x.count(1), 17);
    x.board();
    check.due("six PORTS", x.count(0), 6);
    check.due("an empty PAGE again", x.count(1), 0);
    Check.type(x, "00");
    x.board();
    check.due("one PORT", x.count(0), 1);
  }

  private static void settings(Check check) {
    BoundPorts x = new BoundPorts();
    int[] first = {2, 2, 0};
    int[] least = {1, 0, 0};
    int[] most = {6, 9, 9};
    for (int what = 0; what <= 2; what++) {
      check.due("at first", x.count(2 + what), first[what]);
      x.set(what, least[what]);
      check.due("the least", x.count(2 + what), least[what]);
      x.set(what, least[what] - 1);
      check.due("less is refused", x.count(2 + what), least[what]);
      x.set(what, most[what]);
      check.due("the most", x.count(2 + what), most[what]);
      x.set(what, most[what] + 1);
      check.due("more is refused", x.count(2 + what), most[what]);
    }
  }

  private static void ticksBeginAnew(Check check) {
    BoundPorts x = Check.withBoard("00");
    check.due("none", x.count(5), 0);
    x.tick(50);
    x.tick(51);
    check.due("fifty", x.count(5), 50);
    Check.type(x, "0");
    x.board();
    check.due("a refused BOARD changes nothing", x.count(5), 50);
    Check.type(x, "0");
    x.board();
    check.due("none since the BOARD was read", x.count(5), 0);
  }

  private static void sumsOverFlows(Check check) {
    BoundPorts x = Check.carrying("00,10,20,30", 1);
    for (int what = 6; what <= 9; what++) {
      check.due("none yet", x.count(what), 0);
    }
    for (int flow = 0; flow <= 11; flow++) {
      x.send(flow);
    }
    check.due("sent, of all twelve", x.count(6), 12);
    x.tick(2);
    check.due("DELIVERED", x.count(7), 8);
    x.up(0, false);
    x.up(3, false);
    check.due("LOST", x.count(8), 2);
    BoundPorts most = moving();
    check.due("sent", most.count(6), 54);
    check.due("HELD", most.count(9), 24);
    check.due("LOST", most.count(8), 6);
    most.tick(50);
    check.due("HELD no more", most.count(9), 0);
    check.due("DELIVERED or LOST", most.count(7) + most.count(8), 54);
  }

  private static void markersByTickAndByDown(Check check) {
    BoundPorts x = moving();
    check.due("none yet", x.count(10), 0);
    x.up(2, false);
    check.due("one by DOWN", x.count(10), 1);
    x.tick(8);
    check.due("none by LETTERS that go out", x.count(10), 1);
    x.tick(1);
    check.due("two more by a TICK", x.count(10), 3);
    x.tick(50);
    check.due("and no more", x.count(10), 3);
  }

  private static void allBeginAnew(Check check) {
    BoundPorts x = moving();
    x.up(0, false);
    x.tick(3);
    for (int what = 5; what <= 10; what++) {
      check.due("count(" + what + ") is some", x.count(what) > 0 ? 1 : 0, 1);
    }
    check.refused(x, "board() of nothing", BoundPorts.STATE, x::board);
    Check.type(x, "00,01,02,03,04,05");
    x.board();
    for (int what = 5; what <= 10; what++) {
      check.due("count(" + what + ")", x.count(what), 0);
    }
  }

  private static void howOften(Check check) {
    BoundPorts x = new BoundPorts();
    check.due("never", x.count(11), 0);
    x.board();
    check.due("a refused one is not read", x.count(11), 0);
    for (int often = 1; often <= 20; often++) {
      Check.type(x, "00");
      x.board();
      check.due("how often", x.count(11), often);
    }
  }

  private static void countOutside(Check check) {
    BoundPorts none = new BoundPorts();
    BoundPorts x = moving();
    int[] outside = {-1, 12, LEAST, MOST};
    for (int what : outside) {
      check.refused(none, "count(" + what + ")", BoundPorts.OUTSIDE, () -> none.count(what));
      check.refused(x, "count(" + what + ")", BoundPorts.OUTSIDE, () -> x.count(what));
    }
  }

  private static void digestOfANewObject(Check check) {
    BoundPorts x = new BoundPorts();
    check.due("no PORTS, an empty PAGE", x.digest(), digestOf(numbersOf(x, "")));
    check.due("again", x.digest(), new BoundPorts().digest());
  }

  private static void digestWraps(Check check) {
    BoundPorts x = moving();
    BigInteger whole = wholeDigestOf(numbersOf(x, ""));
    check.due("it is beyond a long", whole.bitLength() > 64 ? 1 : 0, 1);
    check.due("digest()", x.digest(), whole.longValue());
  }

  private static void digestOfQueues(Check check) {
    BoundPorts x = moving();
    check.due("eight LETTERS and a MARKER", x.of(0, 9), 9);
    check.due("digest()", x.digest(), digestOf(numbersOf(x, "")));
    BoundPorts empty = Check.withBoard("00,01,02,03,04,05");
    check.due("digest() of empty QUEUES", empty.digest(), digestOf(numbersOf(empty, "")));
  }

  private static void digestOfLetters(Check check) {
    String[] pages = {"", " ", "~", " ~ ~ ~ ~ ~ ~ ~ ~ "};
    for (String page : pages) {
      BoundPorts x = Check.withBoard("39");
      Check.type(x, page);
      check.due("digest() with '" + page + "'", x.digest(), digestOf(numbersOf(x, page)));
    }
  }

  private static List<Integer> numbersOf(BoundPorts x, String page) {
    List<Integer> numbers = new ArrayList<>();
    int ports = x.count(0);
    for (int port = 0; port < ports; port++) {
      for (int what = 0; what <= 9; what++) {
        numbers.add(x.of(port, what));
      }
      for (int place = 0; x.queue(port, place) != BoundPorts.UNKNOWN; place++) {
        numbers.add(x.queue(port, place));
      }
    }
    for (int key = 0; key <= 3; key++) {
      for (int what = 0; what <= 3; what++) {
        numbers.add(x.key(key, what));
      }
    }
    for (int flow = 0; flow <= 11; flow++) {
      numbers.add(x.way(flow));
      for (int what = 0; what <= 6; what++) {
        numbers.add(x.flow(flow, what));
      }
    }
    page.chars().forEach(numbers::add);
    for (int what = 0; what <= 11; what++) {
      numbers.add(x.count(what));
    }
    return numbers;
  }

  private static long digestOf(List<Integer> numbers) {
    return wholeDigestOf(numbers).longValue();
  }

  /** Without any wrapping, so that a long's wrapping is not tested by itself. */
  private static BigInteger wholeDigestOf(List<Integer> numbers) {
    BigInteger h = BigInteger.valueOf(1741);
    for (int number : numbers) {
      h = h.multiply(BigInteger.valueOf(31)).add(BigInteger.valueOf(number));
    }
    return h;
  }
}
