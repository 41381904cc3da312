import java.util.ArrayList;
import java.util.Collections;
import java.util.List;
import java.util.Random;

/**
 * The same calls on the program and on the model, with what they answered; the first difference is kept. When no call is
 * left of those that the document promises, nothing is called any more.
 */
final class Calls {
  final Counted program = new Counted();
  final Model model = new Model();
  final List<String> told = new ArrayList<>();
  String difference;

  void same(String call, int got, int due) {
    told.add(call + " -> " + got);
    if (got != due && difference == null) difference = call + " answered " + got + ", the model " + due;
  }

  private static int i(boolean b) {
    return b ? 1 : 0;
  }

  /** One call by its number, with five arguments of which it takes as many as it has. */
  void call(int which, int a, int b, int c, int d, int e) {
    if (program.callsLeft() == 0) return;
    Counted x = program;
    Model m = model;
    String three = "(" + a + ", " + b + ", " + c + ")", two = "(" + a + ", " + b + ")", one = "(" + a + ")";
    switch (which) {
      case 0: same("state" + one, x.state(a), m.state(a)); break;
      case 1: same("hearer" + three, x.hearer(a, b, c), m.hearer(a, b, c)); break;
      case 2: same("deed" + three, x.deed(a, b, c), m.deed(a, b, c)); break;
      case 3: same("set" + three, i(x.set(a, b, c)), i(m.set(a, b, c))); break;
      case 4: same("perform" + one, x.perform(a), m.perform(a)); break;
      case 5: same("pay" + two, i(x.pay(a, b)), i(m.pay(a, b))); break;
      case 6: same("glove" + two, i(x.glove(a, b > 0)), i(m.glove(a, b > 0))); break;
      case 7: same("let" + two, i(x.let(a, b > 0)), i(m.let(a, b > 0))); break;
      case 8: same("evenings" + one, x.evenings(a), m.evenings(a)); break;
      case 9: same("feed" + three, x.feed(a, b, c, d, e), m.feed(a, b, c, d, e)); break;
      case 10: same("end" + one, i(x.end(a)), i(m.end(a))); break;
      case 11: same("text" + one, x.text(a), m.text(a)); break;
      case 12: same("fault" + one, x.fault(a), m.fault(a)); break;
      case 13: same("of" + two, x.of(a, b), m.of(a, b)); break;
      case 14: same("deedOf" + two, x.deedOf(a, b), m.deedOf(a, b)); break;
      case 15: same("statute" + one, x.statute(a), m.statute(a)); break;
      case 16: same("book" + two, x.book(a, b), m.book(a, b)); break;
      case 17: same("goes" + one, x.goes(a), m.goes(a)); break;
      case 18: same("settles" + two, x.settles(a, b), m.settles(a, b)); break;
      case 19: same("makes" + three, x.makes(a, b, c), m.makes(a, b, c)); break;
      case 20: same("fills" + two, x.fills(a, b), m.fills(a, b)); break;
      case 21: same("lines" + two, x.lines(a, b), m.lines(a, b)); break;
      case 22: same("claque" + two, x.claque(a, b), m.claque(a, b)); break;
      case 23: same("fits" + one, x.fits(a), m.fits(a)); break;
      case 24: same("cuts" + three, x.cuts(a, b, c), m.cuts(a, b, c)); break;
      case 25: same("near" + two, x.near(a, b), m.near(a, b)); break;
      case 26: same("means" + two, i(x.means(a, b)), i(m.means(a, b))); break;
      case 27: same("passed" + three, x.passed(a, b, c), m.passed(a, b, c)); break;
      case 28: same("share" + two, x.share(a, b), m.share(a, b)); break;
      case 29: same("brides()", x.brides(), m.brides()); break;
      case 30: same("game" + one, x.game(a), m.game(a)); break;
      case 31: same("brakes" + two, x.brakes(a, b), m.brakes(a, b)); break;
      case 32: same("eager" + two, x.eager(a, b), m.eager(a, b)); break;
      case 33: same("groups" + one, x.groups(a), m.groups(a)); break;
      case 34: same("price" + two, x.price(a, b), m.price(a, b)); break;
      case 35: same("gain" + one, x.gain(a), m.gain(a)); break;
      case 36: same("bargain" + one, x.bargain(a), m.bargain(a)); break;
      case 37: same("calm" + one, x.calm(a), m.calm(a)); break;
      case 38: same("tires" + one, x.tires(a), m.tires(a)); break;
      case 39: same("undo()", i(x.undo()), i(m.undo())); break;
      case 40: same("image" + one, i(x.image(a > 0)), i(m.image(a > 0))); break;
      default: same("look" + one, x.look(a), m.look(a)); break;
    }
  }

  /** All that can be seen at once, as much of it as there are calls left, in an order by chance. */
  void lookAll(Random random) {
    List<int[]> looks = new ArrayList<>();
    for (int what = 0; what <= 17; what++) looks.add(new int[] {41, what, 0});
    for (int h = 0; h < model.look(0); h++) for (int what = 0; what <= 18; what++) looks.add(new int[] {13, h, what});
    for (int d = 0; d < model.look(1); d++) for (int what = 0; what <= 7; what++) looks.add(new int[] {14, d, what});
    for (int i = 0; i < model.look(9); i++) for (int what = 0; what <= 3; what++) looks.add(new int[] {16, i, what});
    for (int what = 0; what <= 3; what++) looks.add(new int[] {15, what, 0});
    Collections.shuffle(looks, random);
    for (int[] look : looks) call(look[0], look[1], look[2], 0, 0, 0);
  }

  /** A text is fed, cut to its length, and read as text k. */
  void read(String text, int k) {
    if (program.callsLeft() < text.length() / 20 + 5) return;
    told.add("text " + k + ": " + text);
    for (int from = 0; from < text.length(); from += 20) {
      int[] v = new int[5];
      for (int at = 0; at < 20; at++) {
        int sign = from + at < text.length() ? text.charAt(from + at) : '#';
        v[at / 4] = v[at / 4] << 8 | sign & 255;
      }
      call(9, v[0], v[1], v[2], v[3], v[4]);
    }
    call(10, text.length(), 0, 0, 0, 0);
    call(11, k, 0, 0, 0, 0);
    call(12, 0, 0, 0, 0, 0);
    call(12, 1, 0, 0, 0, 0);
  }

  /** Texts by chance: most as they should be, some with a sign that is wrong. */
  static final class Texts {
    private static final String[] VALUES = {"hearer", "hands", "likes", "manners", "paid", "worth", "wear", "agains",
      "beside", "late"};
    private final Random random;

    Texts(Random random) {
      this.random = random;
    }

    private String one(String... of) {
      return of[random.nextInt(of.length)];
    }

    String number(int below) {
      return random.nextInt(60) == 0 ? one("12345", "0", "9999", "0000") : "" + random.nextInt(Math.max(1, below));
    }

    private String unit() {
      return random.nextInt(3) > 0 ? one(VALUES) : number(one("a", "b").equals("a") ? 12 : 900);
    }

    private String product() {
      StringBuilder s = new StringBuilder(unit());
      for (int i = random.nextInt(3); i > 0; i--)
        s.append(random.nextInt(3) > 0 ? "*" + unit() : "/" + (1 + random.nextInt(20)));
      return s.toString();
    }

    private String sum() {
      StringBuilder s = new StringBuilder(product());
      for (int i = random.nextInt(3); i > 0; i--) s.append(one("+", "-", " + ", " -\n")).append(product());
      return s.toString();
    }

    private String single(int depth) {
      if (depth > 0 && random.nextInt(3) == 0) return "not " + single(depth - 1);
      if (depth > 0 && random.nextInt(3) == 0) return "(" + any(depth - 1) + ")";
      return (random.nextInt(2) == 0 ? unit() : sum()) + one("<", "=", ">") + (random.nextInt(2) == 0 ? unit() : sum());
    }

    private String any(int depth) {
      StringBuilder s = new StringBuilder(single(depth));
      for (int i = random.nextInt(3); i > 0; i--) s.append(one(" and ", " or ")).append(single(depth));
      return s.toString();
    }

    private String lawLine() {
      String word = one("clap", "clap", "loud", "wears");
      String value = word.equals("clap") && random.nextInt(2) == 0
          ? one("likes*", "100+beside*", "paid*50+manners*", "hands*", "300+hearer*") + number(150) : sum();
      int most = random.nextInt(12) == 0 ? 9 : 3;
      return word + " " + value + (random.nextInt(2) == 0 ? " when " + any(random.nextInt(most)) : "") + ";";
    }

    private String line(int k, int hearers, int deeds) {
      if (k == 0) return lawLine();
      int h = hearers + (random.nextInt(40) == 0 ? 1 : 0);
      if (k == 1) {
        switch (random.nextInt(4)) {
          case 0: return "hands " + number(random.nextInt(3) == 0 ? 101 : 20) + " from " + number(6) + ";";
          case 1: return "most " + number(22) + ";";
          case 2: return "double " + number(h) + ";";
          default: return "end " + number(random.nextInt(4) == 0 ? 9999 : 600) + ";";
        }
      }
      if (k == 2) return "at " + number(400) + " deed " + number(deeds + (random.nextInt(40) == 0 ? 1 : 0)) + ";";
      return "hearer " + number(h) + " beside " + number(h) + ";";
    }

    private String shortUnit() {
      return random.nextInt(30) == 0 ? one(VALUES) : "" + random.nextInt(10);
    }

    private String shortSum() {
      StringBuilder s = new StringBuilder(shortUnit());
      while (random.nextInt(9) == 0)
        s.append(random.nextInt(4) == 0 ? "/" + (1 + random.nextInt(9)) : one("+", "-", "*") + shortUnit());
      return s.toString();
    }

    /** One line of THE LAW, with hardly a blank, of about so many bytes: what it takes most steps to read. */
    String longLine(int bytes) {
      StringBuilder s = new StringBuilder(one("loud", "clap", "wears") + shortUnit());
      if (random.nextInt(6) == 0) {
        while (s.length() < bytes - 1) s.append(one("+", "-", "*")).append(shortUnit());
        return s.append(";").toString();
      }
      s.append("when");
      int depth = 0;
      boolean plain = random.nextInt(3) == 0;
      while (true) {
        int rare = plain ? 90 : 5;
        while (depth < 8 && random.nextInt(rare) == 0) {
          s.append("(");
          depth++;
        }
        if (depth < 8 && random.nextInt(rare) == 0) s.append("not ");
        s.append(plain ? shortUnit() : shortSum()).append(one("<", "=", ">")).append(plain ? shortUnit() : shortSum());
        for (; depth > 0 && random.nextInt(4) == 0; depth--) s.append(")");
        if (s.length() + depth + 1 >= bytes - random.nextInt(9)) break;
        s.append(plain && random.nextInt(9) > 0 ? "or" : one("or", "or", "and"));
        if (random.nextInt(40) == 0) s.append(" ");
      }
      return s.append(")".repeat(depth)).append(";").toString();
    }

    String of(int k, int hearers, int deeds) {
      StringBuilder s = new StringBuilder();
      int lines = random.nextInt(20) == 0 ? 17 : random.nextInt(k == 0 ? 6 : 12);
      for (int i = 0; i < lines; i++) s.append(one("", "", " ", "\n")).append(line(k, hearers, deeds));
      if (random.nextInt(5) == 0 && s.length() > 0) {
        int at = random.nextInt(s.length());
        String wrong = one(";", "(", ")", "not", " and ", "=", "7", "A", ".", " ", "\t", "\u00e9", "or", "0", "*", "/");
        if (random.nextInt(2) == 0) s.deleteCharAt(at);
        if (random.nextInt(2) == 0) s.insert(at, wrong);
      }
      if (random.nextInt(30) == 0 && s.length() > 0) s.setLength(random.nextInt(s.length()));
      if (random.nextInt(30) == 0) s.append("  ");
      if (s.length() > 400) s.setLength(400);
      return s.toString();
    }
  }
}
