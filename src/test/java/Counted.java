/**
 * An Encores that counts its calls. What it answers behind 512 of them is free by the document, so that no test may
 * ask it then. Bears the names of the document's face.
 */
final class Counted {
  static final int MOST_CALLS = 512;
  static final int MOST_BYTES = 400;

  private final Encores x = new Encores();
  private int calls;

  private Encores next() {
    calls++;
    if (calls > MOST_CALLS) throw new IllegalStateException("a test asks more than " + MOST_CALLS + " calls of one object");
    return x;
  }

  int callsLeft() { return MOST_CALLS - calls; }

  /** A text is fed, behind nothing else, and read. */
  int text(int k, String text) {
    tape(text);
    return text(k);
  }

  /** The TAPE is this text alone. */
  void tape(String text) {
    end(0);
    for (int from = 0; from < text.length(); from += 20) {
      int[] v = new int[5];
      for (int i = 0; i < 20; i++) v[i / 4] = v[i / 4] << 8 | (from + i < text.length() ? text.charAt(from + i) : ' ');
      feed(v[0], v[1], v[2], v[3], v[4]);
    }
    end(text.length());
  }

  int state(int v) { return next().state(v); }
  int hearer(int hands, int likes, int manners) { return next().hearer(hands, likes, manners); }
  int deed(int worth, int lasts, int cost) { return next().deed(worth, lasts, cost); }
  boolean set(int what, int who, int v) { return next().set(what, who, v); }
  int perform(int deed) { return next().perform(deed); }
  boolean pay(int hearer, int n) { return next().pay(hearer, n); }
  boolean glove(int hearer, boolean is) { return next().glove(hearer, is); }
  boolean let(int hearer, boolean in) { return next().let(hearer, in); }
  int evenings(int n) { return next().evenings(n); }
  int feed(int a, int b, int c, int d, int e) { return next().feed(a, b, c, d, e); }
  boolean end(int n) { return next().end(n); }
  int text(int k) { return next().text(k); }
  int fault(int what) { return next().fault(what); }
  int of(int hearer, int what) { return next().of(hearer, what); }
  int deedOf(int deed, int what) { return next().deedOf(deed, what); }
  int statute(int what) { return next().statute(what); }
  int book(int i, int what) { return next().book(i, what); }
  int goes(int what) { return next().goes(what); }
  int settles(int deed, int what) { return next().settles(deed, what); }
  int makes(int deed, int k, int what) { return next().makes(deed, k, what); }
  int fills(int m, int what) { return next().fills(m, what); }
  int lines(int deeds, int what) { return next().lines(deeds, what); }
  int claque(int hearers, int many) { return next().claque(hearers, many); }
  int fits(int what) { return next().fits(what); }
  int cuts(int a, int b, int what) { return next().cuts(a, b, what); }
  int near(int hearer, int n) { return next().near(hearer, n); }
  boolean means(int v, int w) { return next().means(v, w); }
  int passed(int v, int n, int what) { return next().passed(v, n, what); }
  int share(int n, int hearer) { return next().share(n, hearer); }
  int brides() { return next().brides(); }
  int game(int what) { return next().game(what); }
  int brakes(int deed, int what) { return next().brakes(deed, what); }
  int eager(int deed, int what) { return next().eager(deed, what); }
  int groups(int what) { return next().groups(what); }
  int price(int hearer, int deed) { return next().price(hearer, deed); }
  int gain(int deed) { return next().gain(deed); }
  int bargain(int what) { return next().bargain(what); }
  int calm(int what) { return next().calm(what); }
  int tires(int deed) { return next().tires(deed); }
  boolean undo() { return next().undo(); }
  boolean image(boolean taken) { return next().image(taken); }
  int look(int what) { return next().look(what); }
}
