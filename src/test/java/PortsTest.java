/** Promises 10 to 12: of, queue, key. */
public final class PortsTest {
  public static void main(String[] args) {
    Check check = new Check();
    ofTellsAll(check);
    howItIs(check);
    ofRefuses(check);
    queueTells(check);
    queueRefuses(check);
    leadByRankThenNumber(check);
    chosenAreAlikeToLead(check);
    keysAreApart(check);
    keyRefuses(check);
    check.end();
  }

  private static void ofTellsAll(Check check) {
    BoundPorts x = Check.withBoard("31,29");
    x.up(1, true);
    x.hear(1, 7, 3, true);
    x.tick(2);
    x.send(2);
    int[] due = {2, 9, 1, 7, 3, 1, 2, 4, 2, 1};
    for (int what = 0; what < due.length; what++) {
      check.due("of(1, " + what + ")", x.of(1, what), due[what]);
    }
    x.tick(1);
    check.due("AGE is 3 at most", x.of(1, 6), 3);
    x.tick(1);
    for (int what = 3; what <= 6; what++) {
      check.due("forgotten: of(1, " + what + ")", x.of(1, what), BoundPorts.NONE);
    }
    check.due("it is UP still", x.of(1, 2), 1);
    check.due("how it is", x.of(1, 7), 0);
    check.due("WAITED", x.of(1, 8), 0);
  }

  private static void howItIs(Check check) {
    BoundPorts x = Check.withBoard("00,01");
    x.set(0, 1);
    check.due("DOWN", x.of(0, 7), 0);
    x.up(0, true);
    x.up(1, true);
    check.due("UP, nothing HEARD", x.of(0, 7), 0);
    x.hear(0, 1, 1, false);
    x.hear(1, 1, 1, true);
    check.due("CHOSEN", x.of(0, 7), 2);
    check.due("SPARE", x.of(1, 7), 1);
    x.tick(1);
    check.due("CHOSEN yet", x.of(0, 7), 2);
    x.tick(1);
    check.due("ATTACHED", x.of(0, 7), 3);
    check.due("SPARE whatever it waits", x.of(1, 7), 1);
    check.due("a SPARE one has not WAITED", x.of(1, 8), 0);
    x.hear(0, 1, 1, true);
    check.due("it CARRIES", x.of(0, 7), 4);
    x.hear(1, 1, 2, true);
    check.due("not ALIKE", x.of(1, 7), 0);
  }

  private static void ofRefuses(Check check) {
    BoundPorts x = Check.carrying("00,01", 2);
    int[] wrong = {-1, Integer.MIN_VALUE, Integer.MAX_VALUE};
    for (int w : wrong) {
      check.refused(x, "of(" + w + ", 0)", BoundPorts.UNKNOWN, () -> x.of(w, 0));
      check.refused(x, "of(" + w + ", 10)", BoundPorts.UNKNOWN, () -> x.of(w, 10));
      check.refused(x, "of(0, " + w + ")", BoundPorts.OUTSIDE, () -> x.of(0, w));
    }
    check.refused(x, "of(2, 0)", BoundPorts.UNKNOWN, () -> x.of(2, 0));
    check.refused(x, "of(0, 10)", BoundPorts.OUTSIDE, () -> x.of(0, 10));
  }

  private static void queueTells(Check check) {
    BoundPorts x = Check.carrying("30,31", 2);
    x.send(11);
    x.send(3);
    x.send(11);
    x.set(2, 1);
    x.send(11);
    check.due("in the QUEUE", x.of(0, 9), 4);
    check.due("queue(0, 0)", x.queue(0, 0), 1101);
    check.due("queue(0, 1)", x.queue(0, 1), 301);
    check.due("queue(0, 2)", x.queue(0, 2), 1102);
    check.due("queue(0, 3)", x.queue(0, 3), -12);
    x.tick(1);
    check.due("the next one is the first", x.queue(0, 0), 301);

    BoundPorts many = Check.carrying("00", 1);
    for (int i = 0; i < 99; i++) {
      many.send(0);
      many.hear(0, 1, 0, true);
      many.tick(1);
    }
    Check.send(many, 0, 2);
    check.due("number 100", many.queue(0, 0), 0);
    check.due("number 101", many.queue(0, 1), 1);
    many.tick(2);
    check.due("latest", many.flow(0, 6), 101);
  }

  private static void queueRefuses(Check check) {
    BoundPorts x = Check.carrying("00,01", 2);
    check.refused(x, "queue of none", BoundPorts.UNKNOWN, () -> x.queue(0, 0));
    Check.send(x, 0, 2);
    int[] wrong = {-1, 2, Integer.MIN_VALUE, Integer.MAX_VALUE};
    for (int w : wrong) {
      check.refused(x, "queue(0, " + w + ")", BoundPorts.UNKNOWN, () -> x.queue(0, w));
      check.refused(x, "queue(" + w + ", 0)", BoundPorts.UNKNOWN, () -> x.queue(w, 0));
    }
    x.tick(1);
    check.refused(x, "queue(0, 1) as one went out", BoundPorts.UNKNOWN, () -> x.queue(0, 1));
  }

  private static void leadByRankThenNumber(Check check) {
    BoundPorts x = Check.withBoard("03,02,02,01");
    check.due("LEAD of none", x.key(0, 0), BoundPorts.NONE);
    for (int port = 0; port < 4; port++) {
      x.up(port, true);
    }
    check.due("UP is not HEARD", x.key(0, 0), BoundPorts.NONE);
    x.hear(0, 1, 0, true);
    check.due("LEAD", x.key(0, 0), 0);
    x.hear(2, 2, 0, true);
    check.due("LEAD of less RANK", x.key(0, 0), 2);
    x.hear(1, 1, 0, true);
    check.due("LEAD of like RANK, less number", x.key(0, 0), 1);
    x.hear(3, 5, 3, false);
    check.due("LEAD that is not READY", x.key(0, 0), 3);
    x.up(3, false);
    check.due("LEAD as that is DOWN", x.key(0, 0), 1);
  }

  private static void chosenAreAlikeToLead(Check check) {
    BoundPorts x = Check.withBoard("00,01,02,03,04,05");
    for (int port = 0; port < 6; port++) {
      x.up(port, true);
    }
    x.hear(0, 4, 2, true);
    x.hear(1, 4, 1, true);
    x.hear(2, 5, 2, true);
    x.hear(3, 4, 2, false);
    x.hear(5, 4, 2, true);
    check.due("CHOSEN", x.key(0, 1), 1 | 8);
    check.due("SPARE", x.key(0, 2), 32);
    check.due("CARRY before they WAITED", x.key(0, 3), 0);
    x.set(1, 0);
    check.due("CARRY", x.key(0, 3), 1);
    check.due("CHOSEN with those that CARRY", x.key(0, 1), 1 | 8);
    x.set(0, 3);
    check.due("CHOSEN, WIDTH 3", x.key(0, 1), 1 | 8 | 32);
    check.due("SPARE, WIDTH 3", x.key(0, 2), 0);
    check.due("CARRY, WIDTH 3", x.key(0, 3), 1 | 32);
    x.rank(5, 0);
    x.set(0, 2);
    check.due("CHOSEN by RANK", x.key(0, 1), 1 | 32);
    check.due("SPARE by RANK", x.key(0, 2), 8);
    x.rank(1, 0);
    x.rank(0, 1);
    check.due("another LEAD", x.key(0, 0), 1);
    check.due("CHOSEN are ALIKE to that one", x.key(0, 1), 2);
    check.due("SPARE", x.key(0, 2), 0);
  }

  private static void keysAreApart(Check check) {
    BoundPorts x = Check.carrying("00,10,20,30,15,05", 1);
    int[] chosen = {1, 2, 4, 8};
    int[] spare = {32, 16, 0, 0};
    for (int key = 0; key < 4; key++) {
      check.due("LEAD of " + key, x.key(key, 0), key);
      check.due("CHOSEN of " + key, x.key(key, 1), chosen[key]);
      check.due("SPARE of " + key, x.key(key, 2), spare[key]);
      check.due("CARRY of " + key, x.key(key, 3), chosen[key]);
    }
    x.set(0, 6);
    check.due("CHOSEN of 1", x.key(1, 1), 2 | 16);
  }

  private static void keyRefuses(Check check) {
    BoundPorts x = Check.carrying("00,01", 2);
    int[] wrong = {-1, 4, Integer.MIN_VALUE, Integer.MAX_VALUE};
    for (int w : wrong) {
      check.refused(x, "key(" + w + ", 0)", BoundPorts.UNKNOWN, () -> x.key(w, 0));
      check.refused(x, "key(" + w + ", 4)", BoundPorts.UNKNOWN, () -> x.key(w, 4));
      check.refused(x, "key(0, " + w + ")", BoundPorts.OUTSIDE, () -> x.key(0, w));
    }
  }
}
