import java.nio.file.Files;
import java.nio.file.Path;
import java.util.TreeSet;
import java.util.function.IntPredicate;

/**
 * Tests of the document's edges, each with the words that name it: those words must stand in the document, and each
 * test is run on objects of its own, so that it tells by itself whether they hold.
 */
final class Edges {
  static final int NONE = -1;
  static final int FAR = -100000;
  static final int LEAST = Integer.MIN_VALUE;
  static final int GREATEST = Integer.MAX_VALUE;
  private static final int PROMISES = 43;

  interface Test {
    void run();
  }

  private final String document;
  private final TreeSet<Integer> promises = new TreeSet<>();
  private static String about = "";
  private static int checks;
  private static int edges;
  private static int wrong;

  Edges(Path document) throws java.io.IOException {
    this.document = plain(Files.readString(document));
  }

  private static String plain(String s) {
    return s.replaceAll("\\s+", " ");
  }

  /** One edge: the promise that it belongs to, the document's words, and their test. */
  void edge(int promise, String words, Test test) {
    about = "promise " + promise + ", \"" + words + "\": ";
    promises.add(promise);
    edges++;
    if (!document.contains(plain(words))) fail("these words do not stand in the document");
    int before = checks;
    try {
      test.run();
    } catch (RuntimeException | StackOverflowError thrown) {
      fail("threw " + thrown);
    }
    if (checks == before) fail("nothing was checked");
  }

  static void fail(String what) {
    wrong++;
    System.out.println(about + what);
  }

  static void due(String what, int got, int due) {
    checks++;
    if (got != due) fail(what + " answered " + got + ", due is " + due);
  }

  static void due(String what, boolean got, boolean due) {
    due(what, got ? 1 : 0, due ? 1 : 0);
  }

  /** Taken from least to most, and neither one less, nor one more, nor far away. */
  static void bounds(String what, int least, int most, IntPredicate taken) {
    due(what + " " + least, taken.test(least), true);
    due(what + " " + most, taken.test(most), true);
    for (int v : new int[] {least - 1, most + 1, LEAST, GREATEST}) due(what + " " + v, taken.test(v), false);
  }

  static void reads(Counted x, int k, String text, int lines) {
    due("text " + k + " of " + text, x.text(k, text), lines);
    due("its FAULT", x.fault(0), 0);
    due("its place", x.fault(1), NONE);
    due("its lines", x.look(11 + k), lines);
  }

  static void fails(Counted x, int k, String text, int fault, int place) {
    int before = x.look(11 + k);
    due("text " + k + " of " + text, x.text(k, text), NONE);
    due("the FAULT of " + text, x.fault(0), fault);
    due("the place in " + text, x.fault(1), place);
    due("the TEXT stays", x.look(11 + k), before);
  }

  static String times(int n, String s) {
    return s.repeat(n);
  }

  /** HEARERS with one hand and LIKES 9, and DEEDS of WORTH 3 and ten minutes that cost nothing. */
  static Counted people(int hearers, int deeds) {
    Counted x = new Counted();
    for (int i = 0; i < hearers; i++) x.hearer(1, 9, 0);
    for (int i = 0; i < deeds; i++) x.deed(3, 10, 0);
    return x;
  }

  /** GALLERY: one behind the other. */
  static String row(int hearers) {
    StringBuilder s = new StringBuilder();
    for (int h = 1; h < hearers; h++) s.append("hearer ").append(h - 1).append(" beside ").append(h).append(';');
    return s.toString();
  }

  /** How often something was wrong. */
  int end() {
    about = "";
    for (int promise = 1; promise <= PROMISES; promise++)
      if (!promises.contains(promise)) fail("no edge of promise " + promise);
    System.out.println(edges + " edges, " + checks + " checks, " + wrong + " wrong");
    return wrong;
  }
}
