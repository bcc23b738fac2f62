import java.io.IOException;
import java.nio.file.Files;
import java.nio.file.Path;
import java.util.Map;
import java.util.Set;
import java.util.TreeMap;
import java.util.TreeSet;

/**
 * Tests of boundary cases, each under the sentence that names it, word for word, so that a reader
 * finds the one by the other and no sentence is tested that the document does not have.
 */
final class Edges {
  static final int TERMS = 0;

  private static final Path DOCUMENT = Path.of("../shared/DOC.md");
  private static final String PROMISE = "## Promise ";

  interface Test {
    void run(Check check);
  }

  private final Check check = new Check();
  private final Map<Integer, String> document = readDocument();
  private final Set<Integer> tested = new TreeSet<>();

  Edges of(int promise, String sentence, Test test) {
    String name = promise == TERMS ? "terms" : "promise " + promise;
    check.under(name + ", '" + sentence + "'");
    if (!document.isEmpty()) {
      boolean stands = document.getOrDefault(promise, "").contains(sentence);
      check.due("the sentence stands in the document", stands ? 1 : 0, 1);
    }
    int before = check.asked();
    test.run(check);
    check.due("something is asked", check.asked() > before ? 1 : 0, 1);
    tested.add(promise);
    return this;
  }

  void end(int first, int last) {
    check.under("all");
    for (int promise = first; promise <= last; promise++) {
      check.due("promise " + promise + " has a test", tested.contains(promise) ? 1 : 0, 1);
    }
    check.end();
  }

  /** The parts of the document by promise; what is ahead of the first promise is TERMS. */
  private static Map<Integer, String> readDocument() {
    Map<Integer, String> parts = new TreeMap<>();
    if (!Files.isReadable(DOCUMENT)) {
      System.out.println(DOCUMENT + " is not here: the sentences are not looked up in it");
      return parts;
    }
    int promise = TERMS;
    for (String line : lines()) {
      if (line.startsWith(PROMISE)) {
        promise = Integer.parseInt(line.substring(PROMISE.length(), line.indexOf(':')));
      }
      parts.merge(promise, line.strip(), (all, next) -> all + " " + next);
    }
    return parts;
  }

  private static Iterable<String> lines() {
    try {
      return Files.readAllLines(DOCUMENT);
    } catch (IOException unreadable) {
      throw new IllegalStateException(unreadable);
    }
  }
}
