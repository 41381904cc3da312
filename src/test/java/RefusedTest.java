import java.util.ArrayList;
import java.util.LinkedHashMap;
import java.util.List;
import java.util.Map;
import java.util.function.Consumer;
import java.util.function.Supplier;
import java.util.function.ToIntFunction;

/**
 * What is refused changes nothing, and nothing of what is asked stays: beside an object on which it was called lives a
 * twin on which it was not, and all that can be seen of both must be alike.
 */
public final class RefusedTest {
  private static final int NONE = -1;
  private static final int FAR = -100000;
  private static final int LEAST = Integer.MIN_VALUE;
  private static final int GREATEST = Integer.MAX_VALUE;
  private static final int FALSE = 0;
  private static int calls;
  private static int wrong;

  private static void wrong(String what) {
    wrong++;
    System.out.println(what);
  }

  private static int i(boolean b) {
    return b ? 1 : 0;
  }

  // ==== objects that have lived ====

  /** Four HEARERS, 1 with GLOVES and 2 away, three DEEDS, something of all that can be told, "most 3;" on the TAPE. */
  private static Counted lived() {
    Counted x = new Counted();
    for (int h = 0; h < 4; h++) x.hearer(h + 1, 9 - h, h);
    for (int d = 0; d < 3; d++) x.deed(9 - d, 10 + d, d);
    x.text(0, "clap likes*70+beside*99 when wear<9; loud worth/2; wears 2+agains;");
    x.text(1, "hands 6 from 0; most 2; double 3; hands 9 from 2; end 200;");
    x.text(2, "at 10 deed 0; at 60 deed 2; at 199 deed 1;");
    x.text(3, "hearer 0 beside 1; hearer 1 beside 3; hearer 0 beside 2;");
    x.set(0, 0, 300);
    x.state(77);
    x.claque(7, 2);
    x.claque(9, 1);
    x.means(3, 4);
    x.means(4, 3);
    x.pay(0, 30);
    x.image(true);
    x.evenings(1);
    x.pay(3, 5);
    x.glove(1, true);
    x.let(2, false);
    x.perform(1);
    x.perform(1);
    x.text(1, "most 2 3;");
    x.tape("most 3;");
    return x;
  }

  /** As full as can be: twelve HEARERS, eight DEEDS, eight of CLAQUE, 150 lines of THE BOOK, 400 bytes on the TAPE. */
  private static Counted full() {
    Counted x = new Counted();
    for (int h = 0; h < 12; h++) x.hearer(h % 10, 9 - h % 10, h % 3);
    for (int d = 0; d < 8; d++) x.deed(d, 20 + d, d);
    x.image(true);
    for (int i = 0; i < 150; i++) x.pay(i % 12, 1);
    for (int i = 1; i <= 8; i++) x.claque(4095, 6);
    for (int i = 0; i < 20; i++) x.feed(0x6d6f7374, 0x20333b20, 0x20202020, 0x20202020, 0x20202020);
    return x;
  }

  /** So late in an evening that no DEED can be done by hand. */
  private static Counted late() {
    Counted x = new Counted();
    x.hearer(1, 9, 1);
    x.deed(9, 60, 1);
    x.text(2, "at 8739 deed 0;");
    x.pay(0, 1);
    x.image(true);
    x.set(0, 0, 500);
    x.evenings(1);
    return x;
  }

  /** EVENING is 9999. */
  private static Counted last() {
    Counted x = new Counted();
    x.deed(9, 60, 1);
    x.image(true);
    x.evenings(19);
    for (int i = 0; i < 499; i++) x.evenings(20);
    return x;
  }

  /** Nothing to be undone, no IMAGE. */
  private static Counted young() {
    Counted x = new Counted();
    x.hearer(1, 9, 1);
    x.deed(9, 60, 1);
    return x;
  }

  // ==== all that can be seen ====

  private static Map<String, Integer> seen(Counted x, boolean tapeAndFault) {
    Map<String, Integer> seen = new LinkedHashMap<>();
    looked(x, "", seen);
    int hearers = seen.get("look 0");
    for (int h = 0; h < hearers; h++)
      for (int what : new int[] {0, 1, 2, 3, 4, 5, 6, 7, 10}) seen.put("of " + h + ", " + what, x.of(h, what));
    int deeds = seen.get("look 1");
    for (int d = 0; d < deeds; d++)
      for (int what = 0; what <= 6; what++) seen.put("deedOf " + d + ", " + what, x.deedOf(d, what));
    int lines = seen.get("look 9");
    for (int i = 0; i < lines; i++)
      for (int what = 0; what < 4 && (i < 8 || i > 147); what++) seen.put("book " + i + ", " + what, x.book(i, what));
    for (int v = 0; v < 10; v++) seen.put("passed " + v, x.passed(v, 1, 0));
    for (int what = 0; what < 3; what++) seen.put("statute " + what, x.statute(what));
    for (int what = 0; what < 3; what++) seen.put("fits " + what, x.fits(what));
    for (int what = 0; what < 2; what++) seen.put("goes " + what, x.goes(what));
    if (tapeAndFault) {
      for (int what = 0; what < 2; what++) seen.put("fault " + what, x.fault(what));
      seen.put("lines on the TAPE", x.text(0));
      for (int what = 0; what < 2; what++) seen.put("fault of the TAPE " + what, x.fault(what));
    }
    for (int n = 1; n <= 7; n++) {
      seen.put("undo " + n, i(x.undo()));
      for (int what : new int[] {3, 4, 9, 10}) seen.put("look " + what + " behind undo " + n, x.look(what));
    }
    seen.put("image", i(x.image(false)));
    looked(x, " of THE IMAGE", seen);
    return seen;
  }

  private static void looked(Counted x, String of, Map<String, Integer> seen) {
    for (int what = 0; what <= 16; what++) seen.put("look " + what + of, x.look(what));
  }

  /** What can be seen of an object that asks so many calls before that few are left. */
  private static Map<String, Integer> seenShortly(Counted x) {
    Map<String, Integer> seen = new LinkedHashMap<>();
    for (int what : new int[] {3, 9, 16}) seen.put("look " + what, x.look(what));
    seen.put("undo", i(x.undo()));
    seen.put("EVENING behind undo", x.look(3));
    return seen;
  }

  private static Map<String, Integer> seenOf(Counted x, boolean tapeAndFault) {
    return x.callsLeft() < 20 ? seenShortly(x) : seen(x, tapeAndFault);
  }

  // ==== twins ====

  private static void unchanged(String call, Supplier<Counted> born, Consumer<Counted> calling, boolean tapeAndFault) {
    calls++;
    Counted x = born.get();
    calling.accept(x);
    Map<String, Integer> got = seenOf(x, tapeAndFault);
    Map<String, Integer> due = seenOf(born.get(), tapeAndFault);
    for (String what : due.keySet())
      if (!due.get(what).equals(got.get(what))) wrong(call + " has changed " + what + ": " + got.get(what) + ", due is " + due.get(what));
    if (got.size() != due.size()) wrong(call + " has changed how much can be seen");
  }

  private static void refused(String call, Supplier<Counted> born, ToIntFunction<Counted> calling, int answer) {
    refused(call, born, calling, answer, true);
  }

  private static void refused(String call, Supplier<Counted> born, ToIntFunction<Counted> calling, int answer, boolean tapeAndFault) {
    unchanged(call, born, x -> {
      int got = calling.applyAsInt(x);
      if (got != answer) wrong(call + " answered " + got + ", due is " + answer);
    }, tapeAndFault);
  }

  // ==== the calls ====

  private static void refusedTellings() {
    int[][] hearers = {{-1, 0, 0}, {10, 0, 0}, {0, -1, 0}, {0, 10, 0}, {0, 0, -1}, {0, 0, 10}};
    for (int[] h : hearers) refused("hearer", RefusedTest::lived, x -> x.hearer(h[0], h[1], h[2]), NONE);
    int[][] deeds = {{-1, 1, 0}, {10, 1, 0}, {0, 0, 0}, {0, 61, 0}, {0, 1, -1}, {0, 1, 100}};
    for (int[] d : deeds) refused("deed", RefusedTest::lived, x -> x.deed(d[0], d[1], d[2]), NONE);
    int[][] sets = {{0, 0, -1}, {0, 0, 1001}, {1, 4, 5}, {1, -1, 5}, {1, 0, 10}, {2, 4, 5}, {2, 0, 10}, {2, 0, -1}, {3, 4, 5},
      {3, 0, 10}, {4, 3, 5}, {4, -1, 5}, {4, 0, 10}, {5, 3, 5}, {5, 0, 100}, {5, 0, -1}, {6, 0, 5}, {-1, 0, 5}};
    for (int[] s : sets) refused("set " + s[0] + ", " + s[1] + ", " + s[2], RefusedTest::lived, x -> i(x.set(s[0], s[1], s[2])), FALSE);
    int[][] claques = {{16, 1}, {-2, 1}, {1, 13}, {1, -1}, {LEAST, 1}};
    for (int[] c : claques) refused("claque", RefusedTest::lived, x -> x.claque(c[0], c[1]), NONE);
    int[][] means = {{10, 0}, {-1, 0}, {0, 10}, {0, -1}};
    for (int[] m : means) refused("means", RefusedTest::lived, x -> i(x.means(m[0], m[1])), FALSE);
    refused("a thirteenth HEARER", RefusedTest::full, x -> x.hearer(1, 1, 1), NONE);
    refused("a ninth DEED", RefusedTest::full, x -> x.deed(1, 1, 1), NONE);
    refused("a ninth of CLAQUE", RefusedTest::full, x -> x.claque(1, 1), NONE);
    refused("no IMAGE", RefusedTest::young, x -> i(x.image(false)), FALSE);
  }

  private static void refusedDoings() {
    for (int d : new int[] {-1, 3, LEAST, GREATEST}) refused("perform " + d, RefusedTest::lived, x -> x.perform(d), NONE);
    int[][] pays = {{0, 0}, {0, 100}, {0, -1}, {4, 1}, {-1, 1}};
    for (int[] p : pays) refused("pay", RefusedTest::lived, x -> i(x.pay(p[0], p[1])), FALSE);
    refused("GLOVES that he has", RefusedTest::lived, x -> i(x.glove(1, true)), FALSE);
    refused("GLOVES that he has not", RefusedTest::lived, x -> i(x.glove(0, false)), FALSE);
    refused("he is away", RefusedTest::lived, x -> i(x.let(2, false)), FALSE);
    refused("he is there", RefusedTest::lived, x -> i(x.let(0, true)), FALSE);
    for (int h : new int[] {-1, 4}) {
      for (boolean is : new boolean[] {true, false}) {
        refused("glove " + h, RefusedTest::lived, x -> i(x.glove(h, is)), FALSE);
        refused("let " + h, RefusedTest::lived, x -> i(x.let(h, is)), FALSE);
      }
    }
    for (int n : new int[] {0, 21, -1, LEAST, GREATEST}) refused("evenings " + n, RefusedTest::lived, x -> x.evenings(n), NONE);
    refused("perform so late", RefusedTest::late, x -> x.perform(0), NONE);
    // 500 calls of EVENINGS leave 12
    refused("one more EVENING", RefusedTest::last, x -> x.evenings(1), NONE);
    refused("twenty more EVENINGS", RefusedTest::last, x -> x.evenings(20), NONE);
    refused("nothing to undo", RefusedTest::young, x -> i(x.undo()), FALSE);
  }

  private static void refusedTexts() {
    refused("more than there are", RefusedTest::lived, x -> i(x.end(8)), FALSE);
    refused("less than none", RefusedTest::lived, x -> i(x.end(-1)), FALSE);
    refused("more than 400", RefusedTest::full, x -> x.feed(-1, -1, -1, -1, -1), NONE);
    refused("more than are", RefusedTest::full, x -> i(x.end(401)), FALSE);
    String[] bad = {"loud 1; loud 2 when 1=1 or 1/0=1;", "most 1; most 21;", "at 1 deed 0; at 2 deed 3;", "hearer 0 beside 3; hearer 3 beside 3;"};
    for (int k = 0; k <= 3; k++) {
      final int which = k;
      refused("a FAULT of text " + k, RefusedTest::lived, x -> x.text(which, bad[which]), NONE, false);
    }
    for (int k : new int[] {-1, 4}) refused("text " + k, RefusedTest::lived, x -> x.text(k), NONE, false);
  }

  private static void refusedQuestions() {
    Map<String, ToIntFunction<Counted>> none = new LinkedHashMap<>();
    for (int bad : new int[] {-1, 100, LEAST, GREATEST}) {
      none.put("fault " + bad, x -> x.fault(bad));
      none.put("of what " + bad, x -> x.of(0, bad));
      none.put("of " + bad, x -> x.of(bad, 0));
      none.put("deedOf what " + bad, x -> x.deedOf(0, bad));
      none.put("deedOf " + bad, x -> x.deedOf(bad, 6));
      none.put("statute " + bad, x -> x.statute(bad));
      none.put("book " + bad, x -> x.book(bad, 0));
      none.put("book what " + bad, x -> x.book(0, bad));
      none.put("settles " + bad, x -> x.settles(bad, 0));
      none.put("settles what " + bad, x -> x.settles(0, bad));
      none.put("makes " + bad, x -> x.makes(bad, 1, 0));
      none.put("makes k " + bad, x -> x.makes(0, bad, 0));
      none.put("makes what " + bad, x -> x.makes(0, 1, bad));
      none.put("fills what " + bad, x -> x.fills(9, bad));
      none.put("lines what " + bad, x -> x.lines(1, bad));
      none.put("lines " + bad, x -> x.lines(bad, 0));
      none.put("fits " + bad, x -> x.fits(bad));
      none.put("cuts " + bad, x -> x.cuts(bad, 1, 0));
      none.put("cuts to " + bad, x -> x.cuts(0, bad, 0));
      none.put("cuts what " + bad, x -> x.cuts(0, 3, bad));
      none.put("near " + bad, x -> x.near(bad, 1));
      none.put("near n " + bad, x -> x.near(0, bad));
      none.put("passed " + bad, x -> x.passed(bad, 0, 0));
      none.put("passed what " + bad, x -> x.passed(0, 0, bad));
      none.put("share of " + bad, x -> x.share(9, bad));
      none.put("game " + bad, x -> x.game(bad));
      none.put("brakes " + bad, x -> x.brakes(bad, 0));
      none.put("brakes what " + bad, x -> x.brakes(0, bad));
      none.put("eager " + bad, x -> x.eager(bad, 0));
      none.put("eager what " + bad, x -> x.eager(0, bad));
      none.put("groups " + bad, x -> x.groups(bad));
      none.put("price " + bad, x -> x.price(bad, 0));
      none.put("price at " + bad, x -> x.price(0, bad));
      none.put("gain " + bad, x -> x.gain(bad));
      none.put("bargain " + bad, x -> x.bargain(bad));
      none.put("calm " + bad, x -> x.calm(bad));
      none.put("tires " + bad, x -> x.tires(bad));
    }
    for (int bad : new int[] {-1, 0, 1000, LEAST, GREATEST}) none.put("fills " + bad, x -> x.fills(bad, 0));
    for (int bad : new int[] {-1, 10000, LEAST, GREATEST}) {
      none.put("passed n " + bad, x -> x.passed(0, bad, 0));
      none.put("share n " + bad, x -> x.share(bad, 0));
    }
    none.forEach((call, calling) -> refused(call, RefusedTest::lived, calling, NONE));
    for (int bad : new int[] {-1, 99, LEAST, GREATEST}) {
      refused("goes " + bad, RefusedTest::lived, x -> x.goes(bad), FAR);
      refused("look " + bad, RefusedTest::lived, x -> x.look(bad), FAR);
    }
  }

  /** What is answered leaves nothing behind either. */
  private static void questions() {
    List<Consumer<Counted>> asked = new ArrayList<>(List.of(x -> x.goes(0), x -> x.goes(1), x -> x.goes(10), x -> x.brides(),
        x -> x.near(0, 12), x -> x.share(9999, 0), x -> x.passed(3, 9999, 0), x -> x.passed(3, 0, 1), x -> x.cuts(0, 3, 1),
        x -> x.price(3, 0), x -> x.price(0, 2), x -> x.fills(999, 1), x -> x.lines(7, 0), x -> x.lines(7, 1), x -> x.calm(0)));
    for (int what = 0; what <= 3; what++) {
      final int w = what;
      asked.add(x -> x.fits(w));
      asked.add(x -> x.settles(w % 3, w));
      asked.add(x -> x.makes(0, w + 1, 1));
      asked.add(x -> x.brakes(w % 3, 1));
      asked.add(x -> x.eager(w % 3, w & 1));
      asked.add(x -> x.gain(w % 3));
      asked.add(x -> x.calm(10 + w % 3));
      asked.add(x -> x.tires(w % 3));
      asked.add(x -> x.groups(w & 1));
      asked.add(x -> x.game(w & 1));
      asked.add(x -> x.bargain(w & 1));
      asked.add(x -> x.of(w, 10));
      asked.add(x -> x.deedOf(w % 3, 5));
      asked.add(x -> x.statute(w));
      asked.add(x -> x.book(w, w));
      asked.add(x -> x.fault(w));
    }
    for (int i = 0; i < asked.size(); i++) {
      unchanged("question " + i, RefusedTest::lived, asked.get(i), true);
      unchanged("question " + i + " so late", RefusedTest::late, asked.get(i), true);
    }
  }

  public static void main(String[] args) {
    Watch.over("RefusedTest");
    refusedTellings();
    refusedDoings();
    refusedTexts();
    refusedQuestions();
    questions();
    System.out.println(calls + " calls beside their twins, " + wrong + " wrong");
    if (wrong > 0) System.exit(1);
  }
}
