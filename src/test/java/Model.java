import java.util.ArrayList;
import java.util.Arrays;
import java.util.Comparator;
import java.util.List;
import java.util.stream.Collectors;

/**
 * The document once more, as plainly as the Java library allows and with none of the program's
 * code, to compare the program with. Its calls are the program's, by name and order of arguments.
 */
final class Model {
  private static final int NONE = -1, UNKNOWN = -1001, OUTSIDE = -1002, STATE = -1003, FULL = -1004;

  private record Item(int flow, int number, boolean marker) {}

  private record Heard(int partner, int key, boolean ready) {}

  private static final class Port {
    int number, key, rank, age, waited;
    boolean up;
    Heard heard;
    List<Item> queue = new ArrayList<>();
  }

  private static final class Flow {
    Port on;
    boolean moving;
    List<Item> held = new ArrayList<>();
    int sent, delivered, lost, latest;
  }

  private final StringBuilder page = new StringBuilder();
  private final int[] settings = {2, 2, 0};
  private List<Port> ports = new ArrayList<>();
  private List<Flow> flows = newFlows();
  private int ticks, answered, boards;

  private static List<Flow> newFlows() {
    List<Flow> made = new ArrayList<>();
    while (made.size() < 12) {
      made.add(new Flow());
    }
    return made;
  }

  // ---- who is CHOSEN

  private static List<Port> ranked(List<Port> some) {
    return some.stream()
        .sorted(Comparator.comparingInt((Port p) -> p.rank).thenComparingInt(p -> p.number))
        .collect(Collectors.toList());
  }

  private List<Port> heardOf(int key) {
    return ranked(ports.stream().filter(p -> p.key == key && p.heard != null).toList());
  }

  private List<Port> alike(int key) {
    List<Port> heard = heardOf(key);
    return heard.stream()
        .filter(p -> p.heard.partner == heard.get(0).heard.partner
            && p.heard.key == heard.get(0).heard.key)
        .toList();
  }

  private List<Port> chosen(int key) {
    return alike(key).stream().limit(settings[0]).toList();
  }

  private List<Port> spare(int key) {
    return alike(key).stream().skip(settings[0]).toList();
  }

  private boolean isAttached(Port p) {
    return chosen(p.key).contains(p) && p.waited >= settings[1];
  }

  private boolean isCarrying(Port p) {
    return isAttached(p) && p.heard.ready;
  }

  private List<Port> carrying(int key) {
    return ports.stream().filter(p -> p.key == key && isCarrying(p)).toList();
  }

  private void settle() {
    for (Port p : ports) {
      if (!chosen(p.key).contains(p)) {
        p.waited = 0;
      }
    }
  }

  private Port wayOf(int flow) {
    List<Port> carrying = carrying(flow % 4);
    return carrying.isEmpty() ? null : carrying.get((flow / 4 + settings[2]) % carrying.size());
  }

  // ---- what comes and goes

  private boolean put(Item letter, Port to) {
    if (to == null || to.queue.size() >= 8) {
      flows.get(letter.flow).lost++;
      return false;
    }
    to.queue.add(letter);
    return true;
  }

  private int hold(Item letter) {
    Flow f = flows.get(letter.flow);
    if (f.held.size() == 8) {
      f.lost++;
      return 2;
    }
    f.held.add(letter);
    return 1;
  }

  private void answer(Item marker) {
    Flow f = flows.get(marker.flow);
    answered++;
    f.moving = false;
    f.on = wayOf(marker.flow);
    List<Item> held = f.held;
    f.held = new ArrayList<>();
    held.forEach(letter -> put(letter, f.on));
  }

  private void oneTick() {
    ticks++;
    for (Port p : ports) {
      p.age++;
      if (p.age == 4) {
        p.heard = null;
      }
    }
    settle();
    for (Port p : ports) {
      if (chosen(p.key).contains(p)) {
        p.waited = Math.min(9, p.waited + 1);
      }
    }
    for (Port p : ports) {
      if (p.up && !p.queue.isEmpty()) {
        goOut(p.queue.remove(0));
      }
    }
  }

  private void goOut(Item item) {
    if (item.marker) {
      answer(item);
    } else {
      flows.get(item.flow).delivered++;
      flows.get(item.flow).latest = item.number;
    }
  }

  // ---- the calls

  int letter(int code) {
    if (code < 32 || code > 126) return OUTSIDE;
    if (page.length() == 17) return FULL;
    page.append((char) code);
    return page.length();
  }

  int blank() {
    int had = page.length();
    page.setLength(0);
    return had;
  }

  private static boolean isBoard(String text) {
    return text.matches("[0-3][0-9](,[0-3][0-9]){0,5}");
  }

  private static boolean begins(String text) {
    String rest = "00,00,00,00,00,00";
    for (int from = 0; from <= rest.length(); from++) {
      if (isBoard(text + rest.substring(from))) return true;
    }
    return false;
  }

  int fault() {
    int place = 0;
    while (place < page.length() && begins(page.substring(0, place + 1))) {
      place++;
    }
    return place;
  }

  int board() {
    if (!isBoard(page.toString())) return STATE;
    ports = new ArrayList<>();
    for (String part : page.toString().split(",")) {
      Port p = new Port();
      p.number = ports.size();
      p.key = Integer.parseInt(part.substring(0, 1));
      p.rank = Integer.parseInt(part.substring(1));
      ports.add(p);
    }
    flows = newFlows();
    page.setLength(0);
    ticks = 0;
    answered = 0;
    boards++;
    return ports.size();
  }

  int set(int what, int v) {
    if (what < 0 || what > 2) return OUTSIDE;
    if (what == 0 && (v < 1 || v > 6) || v < 0 || v > 9) return OUTSIDE;
    int was = settings[what];
    settings[what] = v;
    settle();
    return was;
  }

  private boolean noPort(int port) {
    return port < 0 || port >= ports.size();
  }

  int rank(int port, int v) {
    if (noPort(port)) return UNKNOWN;
    if (v < 0 || v > 9) return OUTSIDE;
    int was = ports.get(port).rank;
    ports.get(port).rank = v;
    settle();
    return was;
  }

  int up(int port, boolean is) {
    if (noPort(port)) return UNKNOWN;
    Port p = ports.get(port);
    int was = p.up ? 1 : 0;
    p.up = is;
    if (!is) {
      p.heard = null;
      settle();
      List<Item> gone = p.queue;
      p.queue = new ArrayList<>();
      gone.stream().filter(i -> !i.marker).forEach(i -> flows.get(i.flow).lost++);
      gone.stream().filter(i -> i.marker).forEach(this::answer);
    }
    return was;
  }

  int hear(int port, int partner, int key, boolean ready) {
    if (noPort(port)) return UNKNOWN;
    if (partner < 1 || partner > 9 || key < 0 || key > 3) return OUTSIDE;
    Port p = ports.get(port);
    if (!p.up) return STATE;
    p.heard = new Heard(partner, key, ready);
    p.age = 0;
    settle();
    return isCarrying(p) ? 1 : 0;
  }

  int of(int port, int what) {
    if (noPort(port)) return UNKNOWN;
    if (what < 0 || what > 9) return OUTSIDE;
    Port p = ports.get(port);
    if (what >= 3 && what <= 6 && p.heard == null) return NONE;
    int how = 0;
    if (spare(p.key).contains(p)) how = 1;
    if (chosen(p.key).contains(p)) how = 2;
    if (isAttached(p)) how = 3;
    if (isCarrying(p)) how = 4;
    return switch (what) {
      case 0 -> p.key;
      case 1 -> p.rank;
      case 2 -> p.up ? 1 : 0;
      case 3 -> p.heard.partner;
      case 4 -> p.heard.key;
      case 5 -> p.heard.ready ? 1 : 0;
      case 6 -> p.age;
      case 7 -> how;
      case 8 -> p.waited;
      default -> p.queue.size();
    };
  }

  int queue(int port, int place) {
    if (noPort(port) || place < 0 || place >= ports.get(port).queue.size()) return UNKNOWN;
    Item item = ports.get(port).queue.get(place);
    return item.marker ? -1 - item.flow : item.flow * 100 + item.number % 100;
  }

  private static int bits(List<Port> some) {
    return some.stream().mapToInt(p -> 1 << p.number).sum();
  }

  int key(int key, int what) {
    if (key < 0 || key > 3) return UNKNOWN;
    return switch (what) {
      case 0 -> heardOf(key).isEmpty() ? NONE : heardOf(key).get(0).number;
      case 1 -> bits(chosen(key));
      case 2 -> bits(spare(key));
      case 3 -> bits(carrying(key));
      default -> OUTSIDE;
    };
  }

  int way(int flow) {
    if (flow < 0 || flow > 11) return UNKNOWN;
    return wayOf(flow) == null ? NONE : wayOf(flow).number;
  }

  int send(int flow) {
    if (flow < 0 || flow > 11) return UNKNOWN;
    if (ports.isEmpty()) return STATE;
    Flow f = flows.get(flow);
    Item letter = new Item(flow, ++f.sent, false);
    if (f.moving) return hold(letter);
    Port way = wayOf(flow);
    if (way == null) return put(letter, null) ? 0 : 2;
    if (f.on != null && f.on != way
        && f.on.queue.stream().anyMatch(i -> i.flow == flow && !i.marker)) {
      f.moving = true;
      f.on.queue.add(new Item(flow, 0, true));
      return hold(letter);
    }
    f.on = way;
    return put(letter, way) ? 0 : 2;
  }

  int flow(int flow, int what) {
    if (flow < 0 || flow > 11) return UNKNOWN;
    Flow f = flows.get(flow);
    return switch (what) {
      case 0 -> f.on == null ? NONE : f.on.number;
      case 1 -> f.moving ? 1 : 0;
      case 2 -> f.held.size();
      case 3 -> f.sent;
      case 4 -> f.delivered;
      case 5 -> f.lost;
      case 6 -> f.latest;
      default -> OUTSIDE;
    };
  }

  int tick(int n) {
    if (n < 1 || n > 50) return OUTSIDE;
    if (ports.isEmpty()) return STATE;
    int before = count(7);
    for (int i = 0; i < n; i++) {
      oneTick();
    }
    return count(7) - before;
  }

  int count(int what) {
    return switch (what) {
      case 0 -> ports.size();
      case 1 -> page.length();
      case 2, 3, 4 -> settings[what - 2];
      case 5 -> ticks;
      case 6 -> flows.stream().mapToInt(f -> f.sent).sum();
      case 7 -> flows.stream().mapToInt(f -> f.delivered).sum();
      case 8 -> flows.stream().mapToInt(f -> f.lost).sum();
      case 9 -> flows.stream().mapToInt(f -> f.held.size()).sum();
      case 10 -> answered;
      case 11 -> boards;
      default -> OUTSIDE;
    };
  }

  long digest() {
    List<Integer> all = new ArrayList<>();
    for (Port p : ports) {
      for (int what = 0; what < 10; what++) all.add(of(p.number, what));
      for (int place = 0; place < p.queue.size(); place++) all.add(queue(p.number, place));
    }
    for (int key = 0; key < 4; key++) {
      for (int what = 0; what < 4; what++) all.add(key(key, what));
    }
    for (int flow = 0; flow < 12; flow++) {
      all.add(way(flow));
      for (int what = 0; what < 7; what++) all.add(flow(flow, what));
    }
    page.chars().forEach(all::add);
    for (int what = 0; what < 12; what++) all.add(count(what));
    long h = 1741;
    for (int number : all) h = 31 * h + number;
    return h;
  }

  /** What every run has to keep, whatever is called: every LETTER is somewhere. */
  boolean isWhole() {
    int[] queued = new int[12];
    ports.forEach(p -> p.queue.stream().filter(i -> !i.marker).forEach(i -> queued[i.flow]++));
    return Arrays.stream(new int[] {0, 1, 2, 3, 4, 5, 6, 7, 8, 9, 10, 11}).allMatch(n -> {
      Flow f = flows.get(n);
      return f.sent == queued[n] + f.held.size() + f.delivered + f.lost;
    });
  }
}
