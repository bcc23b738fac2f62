import java.util.function.IntSupplier;

/** What the tests share: answers that are due, refusals that change nothing, boards from texts. */
final class Check {
  private String heading = "";
  private int asked = 0;
  private int wrong = 0;

  /** What is asked from now on belongs to this. */
  void under(String newHeading) {
    heading = newHeading + ": ";
  }

  int asked() {
    return asked;
  }

  void due(String call, long got, long want) {
    asked++;
    if (got != want) {
      wrong++;
      System.out.println(heading + call + " answered " + got + ", due is " + want);
    }
  }

  void refused(BoundPorts x, String call, int want, IntSupplier refusal) {
    unchanged(x, "the refused " + call, want, refusal);
  }

  void unchanged(BoundPorts x, String call, int want, IntSupplier answer) {
    long before = x.digest();
    due(call, answer.getAsInt(), want);
    due("digest() behind " + call, x.digest(), before);
  }

  void end() {
    System.out.println(asked + " answers, " + wrong + " wrong");
    if (wrong != 0 || asked == 0) {
      System.exit(1);
    }
  }

  static void type(BoundPorts x, String text) {
    for (int i = 0; i < text.length(); i++) {
      x.letter(text.charAt(i));
    }
  }

  static BoundPorts withPage(String text) {
    BoundPorts x = new BoundPorts();
    type(x, text);
    return x;
  }

  static BoundPorts withBoard(String text) {
    BoundPorts x = withPage(text);
    x.board();
    return x;
  }

  /** A board whose ports are all UP and have HEARD the same, WAIT 0, so that the CHOSEN ones carry. */
  static BoundPorts carrying(String text, int width) {
    BoundPorts x = withBoard(text);
    x.set(0, width);
    x.set(1, 0);
    hearAll(x);
    return x;
  }

  static void hearAll(BoundPorts x) {
    int ports = x.count(0);
    for (int port = 0; port < ports; port++) {
      x.up(port, true);
      x.hear(port, 1, 0, true);
    }
  }

  static void send(BoundPorts x, int flow, int times) {
    for (int i = 0; i < times; i++) {
      x.send(flow);
    }
  }
}
