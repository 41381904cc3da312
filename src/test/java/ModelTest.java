import java.util.Random;

/** Runs of calls by chance (always the same ones) on the program and on the model: all answers must be alike. */
public final class ModelTest {
  // how often each call comes, by its number in Calls
  private static final int[] OFTEN = {1, 3, 3, 8, 14, 6, 4, 4, 5, 1, 1, 6, 1, 6, 5, 3, 8, 5, 8, 5, 4, 5, 5, 6, 5, 4, 4, 5,
    5, 3, 4, 5, 5, 3, 5, 4, 3, 4, 4, 8, 2, 10};

  // calls that are kept for a look at all at the end
  private static final int LOOKS = 120;

  private final Random random;
  private final Calls calls = new Calls();
  private final Calls.Texts texts;

  private ModelTest(long seed) {
    random = new Random(seed);
    texts = new Calls.Texts(random);
  }

  private int below(int n) {
    return random.nextInt(Math.max(1, n));
  }

  private int odd(int v) {
    int[] odd = {-1, Integer.MIN_VALUE, Integer.MAX_VALUE, -2, v + 1, v + 100, 31, 32, 1 << 30};
    return below(25) == 0 ? odd[below(odd.length)] : v;
  }

  private void tell() {
    int which = 0;
    int of = 0;
    for (int often : OFTEN) of += often;
    for (int at = below(of); at >= OFTEN[which]; which++) at -= OFTEN[which];
    int h = below(calls.model.look(0));
    int d = below(calls.model.look(1));
    int a = 0, b = below(3), c = below(2);
    switch (which) {
      case 0: a = random.nextInt(); break;
      case 1: a = below(10); b = below(10); c = below(10); break;
      case 2: a = below(10); b = 1 + below(60); c = below(100); break;
      case 3: a = below(6); b = a > 3 ? d : h; c = a == 0 ? below(1001) : a == 5 ? below(100) : below(10); break;
      case 4: a = d; break;
      case 5: a = h; b = 1 + below(40); break;
      case 6: case 7: a = h; b = below(2); break;
      case 8: a = 1 + below(below(3) == 0 ? 20 : 3); break;
      case 9: a = random.nextInt(); break;
      case 10: a = below(60); break;
      case 11: text(); return;
      case 13: a = h; b = below(2) == 0 ? below(8) : 10 + d; break;
      case 14: a = d; b = below(7); break;
      case 16: a = below(calls.model.look(9) + 2); b = below(4); break;
      case 17: a = below(2) == 0 ? below(2) : 10 + d; break;
      case 18: case 31: case 32: a = d; b = below(which == 18 ? 3 : 2); break;
      case 19: a = d; b = 1 + below(5); break;
      case 20: a = 1 + below(below(2) == 0 ? 150 : 999); b = below(2); break;
      case 21: a = below(1 << calls.model.look(1)); b = below(2); break;
      case 22: a = below(12) == 0 ? -1 : below(1 << calls.model.look(0)); b = below(5); break;
      case 23: a = below(4); break;
      case 24: a = h; b = below(calls.model.look(0)); break;
      case 25: a = h; b = below(13); break;
      case 26: a = below(10); b = below(10); break;
      case 27: a = below(10); b = below(10000); c = below(3); break;
      case 28: a = below(10000); b = h; break;
      case 34: a = h; b = d; break;
      case 35: case 38: a = d; break;
      case 37: a = below(3) == 0 ? below(2) : 10 + d; break;
      case 40: a = below(2); break;
      case 41: a = below(17); break;
      default: a = below(3); break;
    }
    if (which == 12) a = below(3);
    // an odd number of EVENINGS or of bits is as good as any other
    calls.call(which, odd(a), odd(b), odd(c), random.nextInt(), random.nextInt());
  }

  private void text() {
    int k = below(30) == 0 ? odd(4) : below(4);
    calls.call(10, 0, 0, 0, 0, 0);
    calls.read(texts.of(k < 0 || k > 3 ? 0 : k, calls.model.look(0), calls.model.look(1)), k);
  }

  private boolean run(int hearers, int deeds, int most) {
    for (int i = 0; i < hearers; i++) calls.call(1, below(10), below(10), below(10), 0, 0);
    for (int i = 0; i < deeds; i++) calls.call(2, below(10), 1 + below(below(2) == 0 ? 60 : 20), below(100), 0, 0);
    if (most > 0) for (int k = 0; k < 4; k++) calls.read(texts.of(k, hearers, deeds), k);
    for (int i = 0; i < most && calls.program.callsLeft() > LOOKS && calls.difference == null; i++) tell();
    if (calls.difference == null) calls.lookAll(random);
    if (calls.difference == null) return true;
    System.out.println(calls.difference);
    for (String told : calls.told) System.out.println("  " + told);
    return false;
  }

  /** A gallery that may well clap, and all that can be thought of it. */
  private boolean think(int hearers, int deeds) {
    for (int i = 0; i < hearers; i++) calls.call(1, below(5), below(10), below(10), 0, 0);
    for (int i = 0; i < deeds; i++) calls.call(2, below(10), 1 + below(20), below(20), 0, 0);
    String[] claps = {"likes*" + (50 + below(90)), "hands*" + (90 + below(150)),
      (300 + below(300)) + "+hearer*" + below(50)};
    String[] more = {"+beside*" + below(300), "-beside*" + below(300), "+beside*250-agains*" + below(120), "+paid*9-late*90"};
    String[] when = {"", " when beside>" + below(2), " when agains<" + below(4), " when wear<" + below(9)};
    StringBuilder law = new StringBuilder("wears " + (1 + below(4)) + "+agains;loud worth/" + (2 + below(5)) + ";");
    for (int i = 0; i < 2; i++) law.append("clap " + claps[below(3)] + more[below(4)] + (i == 0 ? when[below(4)] : "") + ";");
    calls.read(law.toString(), 0);
    calls.read("hands " + (1 + below(9)) + " from 0;most " + below(7) + ";end " + below(300) + ";double " + below(hearers)
        + ";hands " + (1 + below(12)) + " from 1;", 1);
    StringBuilder rows = new StringBuilder();
    for (int i = below(15); i > 0; i--) rows.append("hearer " + below(hearers) + " beside " + below(hearers) + ";");
    calls.read(rows.toString(), 3);
    calls.call(0, random.nextInt(), 0, 0, 0, 0);
    for (int i = 0; i < 3 && calls.difference == null; i++) {
      calls.call(4 + below(4), below(Math.min(hearers, deeds)), below(30), 0, 0, 0);
      thinkAll(hearers, deeds);
    }
    return run(0, 0, 0);
  }

  private void thinkAll(int hearers, int deeds) {
    for (int d = 0; d < deeds; d++) {
      for (int k = 1; k <= 5; k++) calls.call(19, d, k, below(2), 0, 0);
      for (int what = 0; what < 3; what++) calls.call(18, d, what, 0, 0, 0);
      calls.call(31, d, below(2), 0, 0, 0);
      calls.call(32, d, below(2), 0, 0, 0);
      calls.call(34, below(hearers), d, 0, 0, 0);
      calls.call(35, d, 0, 0, 0, 0);
      calls.call(37, 10 + d, 0, 0, 0, 0);
      calls.call(38, d, 0, 0, 0, 0);
    }
    for (int i = 0; i < 6; i++) calls.call(24, below(hearers), below(hearers), 1, 0, 0);
    for (int what = 0; what < 2; what++) calls.call(33, what, 0, 0, 0, 0);
  }

  private boolean readMany() {
    for (int i = 0; i < 12; i++) {
      int k = below(4);
      calls.read(texts.of(k, calls.model.look(0), calls.model.look(1)), k);
    }
    return run(0, 0, 0);
  }

  /** Long lines of THE LAW, up to the last byte and beyond, and what they tell. */
  private boolean readLong() {
    for (int i = 0; i < 8; i++) {
      StringBuilder law = new StringBuilder();
      int lines = 1 + below(3);
      for (int line = 0; line < lines; line++) law.append(texts.longLine((330 + below(75)) / lines));
      if (below(4) == 0) law.setCharAt(below(law.length()), "1=(;o ".charAt(below(6)));
      if (below(3) == 0) law.append(" ".repeat(400));
      law.setLength(Math.min(400, law.length()));
      calls.read(law.toString(), 0);
      for (int h = 0; h < 4; h++) calls.call(13, h, 10 + below(3), 0, 0, 0);
      for (int d = 0; d < 3; d++) for (int what = 5; what <= 6; what++) calls.call(14, d, what, 0, 0, 0);
    }
    return run(0, 0, 0);
  }

  /** Four HEARERS and three DEEDS, all unlike. */
  private static ModelTest few(long seed) {
    ModelTest test = new ModelTest(seed);
    for (int i = 0; i < 4; i++) test.calls.call(1, i, 9 - i, i * 2, 0, 0);
    for (int i = 0; i < 3; i++) test.calls.call(2, 9 - i, 5 + i, i, 0, 0);
    return test;
  }

  private static void passed(boolean is, String which) {
    if (is) return;
    System.out.println(which);
    System.exit(1);
  }

  public static void main(String[] args) {
    Watch.over("ModelTest");
    int runs = args.length > 0 ? Integer.parseInt(args[0]) : 240;
    int first = args.length > 1 ? Integer.parseInt(args[1]) : 0;
    for (int seed = first; seed < first + runs; seed++) {
      int hearers = seed % 13;
      int deeds = seed / 13 % 9;
      passed(new ModelTest(seed).run(hearers > 8 && seed % 3 > 0 ? hearers - 8 : hearers, deeds, 400), "seed " + seed);
    }
    for (int seed = first; seed < first + runs * 10; seed++) {
      passed(few(-seed - 1).readMany(), "texts of seed " + seed);
      passed(few(seed * 17L + 3).readLong(), "long lines of seed " + seed);
    }
    for (int seed = first; seed < first + runs * 2; seed++) {
      passed(new ModelTest(seed * 31L + 7).think(1 + seed % 8, 1 + seed % 4), "thoughts of seed " + seed);
    }
    System.out.println(runs + " runs, " + runs * 10 + " rows of texts, as many of long lines and " + runs * 2 + " thoughts are alike");
  }
}
