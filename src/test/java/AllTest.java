import java.util.ArrayList;
import java.util.List;

/** Promises 17 and 18: count, digest. */
public final class AllTest {
  public static void main(String[] args) {
    Check check = new Check();
    countTellsAll(check);
    countRefuses(check);
    digestOfANewObject(check);
    digestOfAll(check);
    digestChangesNothing(check);
    check.end();
  }

  private static BoundPorts busy() {
    BoundPorts x = Check.carrying("05,03,12,09", 2);
    Check.send(x, 0, 3);
    Check.send(x, 4, 2);
    Check.send(x, 2, 2);
    x.set(2, 1);
    Check.send(x, 0, 2);
    x.tick(1);
    Check.send(x, 4, 1);
    Check.send(x, 1, 1);
    Check.type(x, "01,x~ ");
    return x;
  }

  private static void countTellsAll(Check check) {
    BoundPorts x = busy();
    int[] due = {4, 6, 2, 0, 1, 1, 11, 2, 2, 3, 0, 1};
    for (int what = 0; what < due.length; what++) {
      check.due("count(" + what + ")", x.count(what), due[what]);
    }
    x.tick(2);
    check.due("ANSWERED", x.count(10), 1);
    check.due("TICKS", x.count(5), 3);
  }

  private static void countRefuses(Check check) {
    BoundPorts x = busy();
    int[] wrong = {-1, 12, Integer.MIN_VALUE, Integer.MAX_VALUE};
    for (int w : wrong) {
      check.refused(x, "count(" + w + ")", BoundPorts.OUTSIDE, () -> x.count(w));
    }
  }

  private static void digestOfANewObject(Check check) {
    List<Integer> numbers = new ArrayList<>();
    for (int key = 0; key < 4; key++) {
      numbers.addAll(List.of(-1, 0, 0, 0));
    }
    for (int flow = 0; flow < 12; flow++) {
      numbers.addAll(List.of(-1, -1, 0, 0, 0, 0, 0, 0));
    }
    numbers.addAll(List.of(0, 0, 2, 2, 0, 0, 0, 0, 0, 0, 0, 0));
    check.due("digest() of a new object", new BoundPorts().digest(), digestOf(numbers));
  }

  private static void digestOfAll(Check check) {
    BoundPorts x = busy();
    List<Integer> numbers = new ArrayList<>();
    for (int port = 0; port < x.count(0); port++) {
      for (int what = 0; what <= 9; what++) {
        numbers.add(x.of(port, what));
      }
      for (int place = 0; place < x.of(port, 9); place++) {
        numbers.add(x.queue(port, place));
      }
    }
    for (int key = 0; key < 4; key++) {
      for (int what = 0; what <= 3; what++) {
        numbers.add(x.key(key, what));
      }
    }
    for (int flow = 0; flow < 12; flow++) {
      numbers.add(x.way(flow));
      for (int what = 0; what <= 6; what++) {
        numbers.add(x.flow(flow, what));
      }
    }
    for (char letter : "01,x~ ".toCharArray()) {
      numbers.add((int) letter);
    }
    for (int what = 0; what <= 11; what++) {
      numbers.add(x.count(what));
    }
    check.due("digest()", x.digest(), digestOf(numbers));
  }

  private static void digestChangesNothing(Check check) {
    BoundPorts x = busy();
    long first = x.digest();
    check.due("digest() again", x.digest(), first);
    x.letter('!');
    check.due("digest() differs by a letter", x.digest() == first ? 1 : 0, 0);
  }

  private static long digestOf(List<Integer> numbers) {
    long h = 1741;
    for (int number : numbers) {
      h = 31 * h + number;
    }
    return h;
  }
}
