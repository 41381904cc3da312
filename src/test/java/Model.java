import java.util.ArrayDeque;
import java.util.ArrayList;
import java.util.Arrays;
import java.util.Comparator;
import java.util.Deque;
import java.util.HashMap;
import java.util.List;
import java.util.Map;
import java.util.TreeSet;
import java.util.function.ToIntFunction;

/**
 * The document told a second time, by other means than the program: copies of all instead of rows used again, a
 * tree of THE LAW instead of steps, every set tried, every order tried. Slow, and meant to be.
 */
final class Model {
  static final int NONE = -1;

  static final class Hearer implements Cloneable {
    int hands, likes, manners, paid;
    boolean there = true, gloves;

    Hearer copy() {
      Hearer h = new Hearer();
      h.hands = hands; h.likes = likes; h.manners = manners; h.paid = paid; h.there = there; h.gloves = gloves;
      return h;
    }
  }

  static final class Deed {
    int worth, lasts, cost, wear, done;

    Deed copy() {
      Deed d = new Deed();
      d.worth = worth; d.lasts = lasts; d.cost = cost; d.wear = wear; d.done = done;
      return d;
    }
  }

  /** What a word of THE LAW is asked with. */
  record Ask(int hearer, int hands, int likes, int manners, int paid, int worth, int wear, int agains, int beside,
      int late) {
  }

  interface Truth {
    boolean is(Ask ask);
  }

  record LawLine(String word, ToIntFunction<Ask> value, Truth when) {
  }

  static final class All {
    List<Hearer> hearers = new ArrayList<>();
    List<Deed> deeds = new ArrayList<>();
    int minute, evening, coin, coughs, now = NONE, agains, state;
    List<int[]> book = new ArrayList<>();
    List<LawLine> law = new ArrayList<>();
    List<String[]> statute = new ArrayList<>(), programme = new ArrayList<>(), gallery = new ArrayList<>();
    List<int[]> claque = new ArrayList<>();
    int[] means = {0, 1, 2, 3, 4, 5, 6, 7, 8, 9};

    All copy() {
      All a = new All();
      for (Hearer h : hearers) a.hearers.add(h.copy());
      for (Deed d : deeds) a.deeds.add(d.copy());
      a.minute = minute; a.evening = evening; a.coin = coin; a.coughs = coughs; a.now = now; a.agains = agains;
      a.state = state;
      a.book.addAll(book);
      a.law.addAll(law);
      a.statute.addAll(statute);
      a.programme.addAll(programme);
      a.gallery.addAll(gallery);
      a.claque.addAll(claque);
      a.means = means.clone();
      return a;
    }
  }

  All all = new All();
  All image;
  Deque<All> past = new ArrayDeque<>();
  List<Integer> tape = new ArrayList<>();
  int fault = 0, faultPlace = NONE;
  boolean thinking;

  // ---- the texts

  static final class Fault extends Exception {
    private static final long serialVersionUID = 1L;
    final int what, place;

    Fault(int what, int place) {
      this.what = what;
      this.place = place;
    }
  }

  record Token(String sign, int place) {
  }

  static List<Token> tokens(String text) {
    List<Token> found = new ArrayList<>();
    int i = 0;
    while (i < text.length()) {
      char c = text.charAt(i);
      int from = i;
      if (c == ' ' || c == '\n') {
        i++;
        continue;
      }
      if (String.valueOf(c).matches("[a-zA-Z]")) {
        while (i < text.length() && String.valueOf(text.charAt(i)).matches("[a-zA-Z]")) i++;
      } else if (c >= '0' && c <= '9') {
        while (i < text.length() && text.charAt(i) >= '0' && text.charAt(i) <= '9') i++;
      } else {
        i++;
      }
      found.add(new Token(text.substring(from, i), from));
    }
    found.add(new Token("", text.length()));
    return found;
  }

  List<Token> toks;
  int at;
  int open;

  String sign() {
    return toks.get(at).sign();
  }

  Fault wrong(int what) {
    return new Fault(what, toks.get(at).place());
  }

  void want(String sign) throws Fault {
    if (!sign().equals(sign)) throw wrong(1);
    at++;
  }

  boolean isNumber() {
    return sign().matches("[0-9]{1,4}");
  }

  int number(int least, int most) throws Fault {
    if (!isNumber()) throw wrong(1);
    int v = Integer.parseInt(sign());
    if (v < least || v > most) throw wrong(2);
    at++;
    return v;
  }

  ToIntFunction<Ask> unit() throws Fault {
    if (isNumber()) {
      int v = number(0, 9999);
      return a -> v;
    }
    String word = sign();
    ToIntFunction<Ask> of;
    switch (word) {
      case "hearer": of = Ask::hearer; break;
      case "hands": of = Ask::hands; break;
      case "likes": of = Ask::likes; break;
      case "manners": of = Ask::manners; break;
      case "paid": of = Ask::paid; break;
      case "worth": of = Ask::worth; break;
      case "wear": of = Ask::wear; break;
      case "agains": of = Ask::agains; break;
      case "beside": of = Ask::beside; break;
      case "late": of = Ask::late; break;
      default: throw wrong(1);
    }
    at++;
    return of;
  }

  ToIntFunction<Ask> product() throws Fault {
    ToIntFunction<Ask> left = unit();
    while (sign().equals("*") || sign().equals("/")) {
      ToIntFunction<Ask> before = left;
      if (sign().equals("*")) {
        at++;
        ToIntFunction<Ask> right = unit();
        left = a -> before.applyAsInt(a) * right.applyAsInt(a);
      } else {
        at++;
        int by = number(1, 9999);
        left = a -> before.applyAsInt(a) / by;
      }
    }
    return left;
  }

  ToIntFunction<Ask> sum() throws Fault {
    ToIntFunction<Ask> left = product();
    while (sign().equals("+") || sign().equals("-")) {
      ToIntFunction<Ask> before = left;
      boolean plus = sign().equals("+");
      at++;
      ToIntFunction<Ask> right = product();
      left = plus ? a -> before.applyAsInt(a) + right.applyAsInt(a)
          : a -> before.applyAsInt(a) - right.applyAsInt(a);
    }
    return left;
  }

  Truth any() throws Fault {
    Truth left = both();
    while (sign().equals("or")) {
      at++;
      Truth before = left;
      Truth right = both();
      left = a -> before.is(a) || right.is(a);
    }
    return left;
  }

  Truth both() throws Fault {
    Truth left = single();
    while (sign().equals("and")) {
      at++;
      Truth before = left;
      Truth right = single();
      left = a -> before.is(a) && right.is(a);
    }
    return left;
  }

  Truth single() throws Fault {
    if (sign().equals("not") || sign().equals("(")) {
      boolean not = sign().equals("not");
      if (open == 8) throw wrong(3);
      open++;
      at++;
      Truth inner = not ? single() : any();
      if (!not) want(")");
      open--;
      return not ? a -> !inner.is(a) : inner;
    }
    ToIntFunction<Ask> left = sum();
    String sign = sign();
    if (!sign.equals("<") && !sign.equals("=") && !sign.equals(">")) throw wrong(1);
    at++;
    ToIntFunction<Ask> right = sum();
    return a -> {
      int l = left.applyAsInt(a), r = right.applyAsInt(a);
      return sign.equals("<") ? l < r : sign.equals("=") ? l == r : l > r;
    };
  }

  void keyword(int lines, String... words) throws Fault {
    if (!Arrays.asList(words).contains(sign())) throw wrong(1);
    if (lines == 16) throw wrong(3);
    at++;
  }

  List<LawLine> readLaw() throws Fault {
    List<LawLine> lines = new ArrayList<>();
    while (!sign().isEmpty()) {
      String word = sign();
      keyword(lines.size(), "loud", "clap", "wears");
      ToIntFunction<Ask> value = sum();
      Truth when = null;
      if (sign().equals("when")) {
        at++;
        open = 0;
        when = any();
      }
      want(";");
      lines.add(new LawLine(word, value, when));
    }
    return lines;
  }

  List<String[]> readPlain(int k) throws Fault {
    List<String[]> lines = new ArrayList<>();
    int hearers = all.hearers.size() - 1, deeds = all.deeds.size() - 1;
    while (!sign().isEmpty()) {
      String word = sign();
      int a = 0, b = 0;
      if (k == 1) {
        keyword(lines.size(), "hands", "most", "double", "end");
        if (word.equals("hands")) {
          a = number(1, 99);
          want("from");
          b = number(0, 9999);
        } else {
          a = word.equals("most") ? number(0, 20) : word.equals("double") ? number(0, hearers) : number(1, 9999);
        }
      } else if (k == 2) {
        keyword(lines.size(), "at");
        a = number(0, 9999);
        want("deed");
        b = number(0, deeds);
      } else {
        keyword(lines.size(), "hearer");
        a = number(0, hearers);
        want("beside");
        if (isNumber() && Integer.parseInt(sign()) == a) throw wrong(2);
        b = number(0, hearers);
      }
      want(";");
      lines.add(new String[] {word, "" + a, "" + b});
    }
    return lines;
  }

  int text(int k) {
    StringBuilder s = new StringBuilder();
    for (int c : tape) s.append((char) c);
    tape.clear();
    fault = 0;
    faultPlace = NONE;
    if (k < 0 || k > 3) return NONE;
    toks = tokens(s.toString());
    at = 0;
    try {
      if (k == 0) {
        all.law = readLaw();
        return all.law.size();
      }
      List<String[]> lines = readPlain(k);
      if (k == 1) all.statute = lines;
      if (k == 2) all.programme = lines;
      if (k == 3) all.gallery = lines;
      past.clear();
      return lines.size();
    } catch (Fault f) {
      fault = f.what;
      faultPlace = f.place;
      return NONE;
    }
  }

  int fault(int what) {
    return what == 0 ? fault : what == 1 ? faultPlace : NONE;
  }

  int feed(int a, int b, int c, int d, int e) {
    if (tape.size() + 20 > 400) return NONE;
    for (int v : new int[] {a, b, c, d, e})
      for (int i = 3; i >= 0; i--) tape.add(v >>> 8 * i & 255);
    return tape.size();
  }

  boolean end(int n) {
    if (n < 0 || n > tape.size()) return false;
    tape = new ArrayList<>(tape.subList(0, n));
    return true;
  }

  // ---- what the texts tell

  static int n(String[] line, int i) {
    return Integer.parseInt(line[i]);
  }

  int statute(int what) {
    if (what == 0) {
      String[] best = null;
      for (String[] line : all.statute)
        if (line[0].equals("hands") && n(line, 2) <= all.evening && (best == null || n(line, 2) >= n(best, 2)))
          best = line;
      return best == null ? 5 : n(best, 1);
    }
    if (what != 1 && what != 2) return NONE;
    int last = what == 1 ? 9 : 300;
    for (String[] line : all.statute) if (line[0].equals(what == 1 ? "most" : "end")) last = n(line, 1);
    return last;
  }

  int counts(int h) {
    for (String[] line : all.statute) if (line[0].equals("double") && n(line, 1) == h) return 2;
    return 1;
  }

  boolean beside(int a, int b) {
    for (String[] line : all.gallery)
      if (n(line, 1) == a && n(line, 2) == b || n(line, 1) == b && n(line, 2) == a) return true;
    return false;
  }

  int tell(String word, Ask ask) {
    int most = word.equals("clap") ? 1000 : 99;
    for (LawLine line : all.law)
      if (line.word().equals(word) && (line.when() == null || line.when().is(ask)))
        return Math.max(0, Math.min(most, line.value().applyAsInt(ask)));
    return word.equals("loud") ? ask.worth() / 3 : word.equals("clap") ? 100 * ask.likes() : 2;
  }

  int clap(int h, int d, int beside, int morePaid) {
    Hearer he = all.hearers.get(h);
    Deed de = all.deeds.get(d);
    return tell("clap", new Ask(h, he.hands, he.likes, he.manners, he.paid + morePaid, de.worth, de.wear, all.agains,
        beside, Math.floorDiv(all.minute, 60)));
  }

  int clap(int h, int d) {
    return clap(h, d, 0, 0);
  }

  int ofDeed(String word, int d) {
    Deed de = all.deeds.get(d);
    return tell(word, new Ask(0, 0, 0, 0, 0, de.worth, de.wear, all.agains, 0, Math.floorDiv(all.minute, 60)));
  }

  // ---- doings

  int draw(int m) {
    all.state = all.state * 1664525 + 1013904223;
    return (all.state >>> 8) % m;
  }

  void note(int what, int which, int much) {
    if (!thinking && all.book.size() < 150) all.book.add(new int[] {all.evening, what, which, much});
  }

  TreeSet<Integer> clapping = new TreeSet<>();
  int rounds;
  int hands;

  /** A DEED is done once: whether it has to be done over. */
  boolean doOnce(int d) {
    Deed de = all.deeds.get(d);
    all.agains = all.now == d ? all.agains + 1 : 0;
    int wears = ofDeed("wears", d);
    all.now = d;
    all.minute += de.lasts;
    all.coin -= de.cost;
    de.done++;
    de.wear = Math.min(99, de.wear + wears);
    Map<Integer, Integer> own = new HashMap<>();
    for (int h = 0; h < all.hearers.size(); h++)
      if (all.hearers.get(h).there) own.put(h, thinking ? 500 : draw(1000));
    clapping.clear();
    rounds = 0;
    while (true) {
      boolean begun = false;
      for (int h : new TreeSet<>(own.keySet())) {
        if (all.hearers.get(h).gloves || clapping.contains(h)) continue;
        int near = 0;
        for (int c : clapping) if (beside(h, c)) near++;
        if (own.get(h) < clap(h, d, near, 0)) {
          clapping.add(h);
          begun = true;
        }
      }
      if (!begun) break;
      rounds++;
    }
    boolean coughed = !thinking && all.coughs > 0 && draw(1000) < all.coughs;
    hands = ofDeed("loud", d);
    for (int c : clapping) hands += all.hearers.get(c).hands * counts(c);
    if (coughed) {
      hands = 0;
      note(2, d, 0);
    }
    note(all.agains > 0 ? 1 : 0, d, hands);
    return !coughed && hands >= statute(0) && all.agains < statute(1) && all.minute < statute(2);
  }

  int doOver(int d) {
    int times = 1;
    while (doOnce(d)) times++;
    return times;
  }

  int evening() {
    all.minute = 0;
    all.now = NONE;
    all.agains = 0;
    int times = 0;
    for (String[] line : all.programme) {
      all.minute = Math.max(all.minute, n(line, 1));
      if (all.minute < statute(2)) times += doOver(n(line, 2));
    }
    all.evening++;
    return times;
  }

  void remember() {
    past.addLast(all.copy());
    if (past.size() > 6) past.removeFirst();
  }

  // ---- the face

  boolean isHearer(int h) {
    return h >= 0 && h < all.hearers.size();
  }

  boolean isDeed(int d) {
    return d >= 0 && d < all.deeds.size();
  }

  static boolean digit(int v) {
    return v >= 0 && v <= 9;
  }

  int state(int v) {
    int was = all.state;
    all.state = v;
    past.clear();
    return was;
  }

  int hearer(int hands, int likes, int manners) {
    if (!digit(hands) || !digit(likes) || !digit(manners) || all.hearers.size() == 12) return NONE;
    Hearer h = new Hearer();
    h.hands = hands;
    h.likes = likes;
    h.manners = manners;
    all.hearers.add(h);
    past.clear();
    return all.hearers.size() - 1;
  }

  int deed(int worth, int lasts, int cost) {
    if (!digit(worth) || lasts < 1 || lasts > 60 || cost < 0 || cost > 99 || all.deeds.size() == 8) return NONE;
    Deed d = new Deed();
    d.worth = worth;
    d.lasts = lasts;
    d.cost = cost;
    all.deeds.add(d);
    past.clear();
    return all.deeds.size() - 1;
  }

  boolean set(int what, int who, int v) {
    if (what < 0 || what > 5 || v < 0 || v > (what == 0 ? 1000 : what == 5 ? 99 : 9)) return false;
    if (what >= 1 && what <= 3 && !isHearer(who) || what >= 4 && !isDeed(who)) return false;
    if (what == 0) all.coughs = v;
    if (what == 1) all.hearers.get(who).hands = v;
    if (what == 2) all.hearers.get(who).likes = v;
    if (what == 3) all.hearers.get(who).manners = v;
    if (what == 4) all.deeds.get(who).worth = v;
    if (what == 5) all.deeds.get(who).wear = v;
    past.clear();
    return true;
  }

  int perform(int d) {
    if (!isDeed(d) || all.minute + 21 * all.deeds.get(d).lasts >= 9999) return NONE;
    remember();
    return doOver(d);
  }

  boolean pay(int h, int n) {
    if (!isHearer(h) || n < 1 || n > 99) return false;
    remember();
    all.hearers.get(h).paid = Math.min(99, all.hearers.get(h).paid + n);
    all.coin -= n;
    note(3, h, n);
    return true;
  }

  boolean glove(int h, boolean is) {
    if (!isHearer(h) || all.hearers.get(h).gloves == is) return false;
    remember();
    all.hearers.get(h).gloves = is;
    note(4, h, is ? 1 : 0);
    return true;
  }

  boolean let(int h, boolean in) {
    if (!isHearer(h) || all.hearers.get(h).there == in) return false;
    remember();
    all.hearers.get(h).there = in;
    note(5, h, in ? 1 : 0);
    return true;
  }

  int evenings(int n) {
    if (n < 1 || n > 20 || all.evening + n > 9999) return NONE;
    int times = 0;
    for (int i = 0; i < n; i++) {
      remember();
      times += evening();
    }
    return times;
  }

  int of(int h, int what) {
    if (!isHearer(h)) return NONE;
    Hearer he = all.hearers.get(h);
    if (what >= 10) return isDeed(what - 10) ? clap(h, what - 10) : NONE;
    switch (what) {
      case 0: return he.hands;
      case 1: return he.likes;
      case 2: return he.manners;
      case 3: return he.there ? 1 : 0;
      case 4: return he.gloves ? 1 : 0;
      case 5: return he.paid;
      case 6:
        int set = 0;
        for (int o = 0; o < all.hearers.size(); o++) if (beside(h, o)) set += 1 << o;
        return set;
      case 7: return counts(h);
      default: return NONE;
    }
  }

  int deedOf(int d, int what) {
    if (!isDeed(d)) return NONE;
    Deed de = all.deeds.get(d);
    switch (what) {
      case 0: return de.worth;
      case 1: return de.lasts;
      case 2: return de.cost;
      case 3: return de.wear;
      case 4: return de.done;
      case 5: return ofDeed("loud", d);
      case 6: return ofDeed("wears", d);
      default: return NONE;
    }
  }

  int book(int i, int what) {
    return i < 0 || i >= all.book.size() || what < 0 || what > 3 ? NONE : all.book.get(i)[what];
  }

  /** In thought: what some doing comes to on a copy of all. */
  private int think(ToIntFunction<Model> doing) {
    Model m = new Model();
    m.all = all.copy();
    m.thinking = true;
    return doing.applyAsInt(m);
  }

  int goes(int what) {
    if (what != 0 && what != 1 && !(what >= 10 && isDeed(what - 10))) return NONE - 99999;
    return think(m -> {
      int before = what >= 10 ? m.all.deeds.get(what - 10).done : 0;
      m.evening();
      return what == 0 ? m.all.minute : what == 1 ? m.all.coin : m.all.deeds.get(what - 10).done - before;
    });
  }

  static int setOf(Iterable<Integer> numbers) {
    int set = 0;
    for (int i : numbers) set |= 1 << i;
    return set;
  }

  int settles(int d, int what) {
    if (!isDeed(d) || what < 0 || what > 2) return NONE;
    return think(m -> {
      m.doOnce(d);
      return what == 0 ? setOf(m.clapping) : what == 1 ? m.rounds : m.hands;
    });
  }

  private int fewest(int within, ToIntFunction<Integer> fits, int what) {
    int best = NONE;
    for (int set = 0; set < 1 << 12; set++) {
      if ((set & ~within) != 0 || best != NONE && Integer.bitCount(set) >= Integer.bitCount(best)) continue;
      if (fits.applyAsInt(set) == 1) best = set;
    }
    return best == NONE ? NONE : what == 0 ? Integer.bitCount(best) : best;
  }

  int makes(int d, int k, int what) {
    if (!isDeed(d) || k < 1 || k > 5 || what < 0 || what > 1) return NONE;
    return fewest(look(8), set -> think(m -> {
      for (int h = 0; h < 12; h++) if ((set >> h & 1) == 1) m.all.hearers.get(h).there = false;
      return m.doOver(d) == k ? 1 : 0;
    }), what);
  }

  int brakes(int d, int what) {
    if (!isDeed(d) || what < 0 || what > 1) return NONE;
    int bare = 0;
    for (int h = 0; h < all.hearers.size(); h++)
      if (all.hearers.get(h).there && !all.hearers.get(h).gloves) bare |= 1 << h;
    return fewest(bare, set -> think(m -> {
      for (int h = 0; h < 12; h++) if ((set >> h & 1) == 1) m.all.hearers.get(h).gloves = true;
      return m.doOver(d) == 1 ? 1 : 0;
    }), what);
  }

  int fills(int m, int what) {
    if (m < 1 || m > 999 || what < 0 || what > 1) return NONE;
    int best = 0, most = 0;
    for (int set = 0; set < 1 << all.deeds.size(); set++) {
      int worth = 0, lasts = 0;
      for (int d = 0; d < all.deeds.size(); d++) {
        if ((set >> d & 1) == 0) continue;
        worth += all.deeds.get(d).worth;
        lasts += all.deeds.get(d).lasts;
      }
      if (lasts <= m && worth > most) {
        most = worth;
        best = set;
      }
    }
    return what == 0 ? most : best;
  }

  /** The least sum of all orders of a set from a minute on. */
  private int leastOrder(int set, int minute) {
    if (set == 0) return 0;
    int least = Integer.MAX_VALUE;
    for (int d = 0; d < all.deeds.size(); d++)
      if ((set >> d & 1) == 1) least = Math.min(least, orderFrom(set, minute, d));
    return least;
  }

  private int orderFrom(int set, int minute, int d) {
    int end = minute + all.deeds.get(d).lasts;
    return all.deeds.get(d).worth * end + leastOrder(set & ~(1 << d), end);
  }

  int lines(int deeds, int what) {
    if (deeds < 0 || deeds >> all.deeds.size() != 0 || what < 0 || what > 1) return NONE;
    int least = leastOrder(deeds, 0);
    if (what == 0) return least;
    for (int d = 0; d < all.deeds.size(); d++)
      if ((deeds >> d & 1) == 1 && orderFrom(deeds, 0, d) == least) return d;
    return NONE;
  }

  int claque(int hearers, int many) {
    if (hearers == NONE) {
      all.claque.clear();
      return 0;
    }
    if (hearers < 0 || hearers >> all.hearers.size() != 0 || many < 0 || many > 12 || all.claque.size() == 8)
      return NONE;
    all.claque.add(new int[] {hearers, many});
    return all.claque.size();
  }

  int fits(int what) {
    List<Integer> sets = new ArrayList<>();
    for (int set = 0; set < 1 << all.hearers.size(); set++) {
      final int s = set;
      if (all.claque.stream().allMatch(c -> Integer.bitCount(c[0] & s) == c[1])) sets.add(set);
    }
    if (what == 0) return sets.size();
    if (what == 1) return sets.isEmpty() ? NONE : sets.get(0);
    if (what == 2) return sets.isEmpty() ? NONE : sets.get(sets.size() - 1);
    if (what != 3 || sets.size() < 2) return NONE;
    int best = NONE, least = Integer.MAX_VALUE;
    for (int h = 0; h < all.hearers.size(); h++) {
      final int hh = h;
      int with = (int) sets.stream().filter(s -> (s >> hh & 1) == 1).count();
      if (Math.max(with, sets.size() - with) < least) {
        least = Math.max(with, sets.size() - with);
        best = h;
      }
    }
    return best;
  }

  private void walk(int h, int steps, int within, TreeSet<Integer> met) {
    met.add(h);
    for (int o = 0; o < all.hearers.size() && steps > 0; o++)
      if (beside(h, o) && (within >> o & 1) == 1 && !met.contains(o)) walk(o, steps, within, met);
  }

  int cuts(int a, int b, int what) {
    if (!isHearer(a) || !isHearer(b) || a == b || beside(a, b) || what < 0 || what > 1) return NONE;
    int bare = 0;
    for (int h = 0; h < all.hearers.size(); h++) if (!all.hearers.get(h).gloves && h != a && h != b) bare |= 1 << h;
    final int others = bare;
    return fewest(others, set -> {
      TreeSet<Integer> met = new TreeSet<>();
      walk(a, 1, others & ~set | 1 << b, met);
      return met.contains(b) ? 0 : 1;
    }, what);
  }

  int near(int h, int n) {
    if (!isHearer(h) || n < 0 || n > 12) return NONE;
    int[] steps = new int[all.hearers.size()];
    Arrays.fill(steps, 99);
    steps[h] = 0;
    for (int i = 0; i < 12; i++)
      for (int a = 0; a < steps.length; a++)
        for (int b = 0; b < steps.length; b++)
          if (beside(a, b)) steps[b] = Math.min(steps[b], steps[a] + 1);
    int set = 0;
    for (int a = 0; a < steps.length; a++) if (steps[a] <= n) set |= 1 << a;
    return set;
  }

  boolean means(int v, int w) {
    if (!digit(v) || !digit(w)) return false;
    all.means[v] = w;
    return true;
  }

  int passed(int v, int n, int what) {
    if (!digit(v) || what < 0 || what > 2 || what == 0 && (n < 0 || n > 9999)) return NONE;
    List<Integer> row = new ArrayList<>();
    int meaning = v;
    if (what == 0) {
      for (int i = 0; i < n; i++) meaning = all.means[meaning];
      return meaning;
    }
    while (!row.contains(meaning)) {
      row.add(meaning);
      meaning = all.means[meaning];
    }
    return what == 1 ? row.size() : row.size() - row.indexOf(meaning);
  }

  int share(int n, int hearer) {
    List<Integer> there = new ArrayList<>();
    int all1 = 0;
    for (int h = 0; h < all.hearers.size(); h++) {
      if (!all.hearers.get(h).there) continue;
      there.add(h);
      all1 += all.hearers.get(h).likes + 1;
    }
    if (n < 0 || n > 9999 || !isHearer(hearer) || there.isEmpty()) return NONE;
    final int sum = all1;
    int[] parts = new int[12];
    int left = n;
    for (int h : there) {
      parts[h] = n * (all.hearers.get(h).likes + 1) / sum;
      left -= parts[h];
    }
    Comparator<Integer> byRest = Comparator.comparingInt(h -> -(n * (all.hearers.get(h).likes + 1) % sum));
    there.sort(byRest.thenComparingInt(h -> h));
    for (int h : there) {
      if (left == 0) break;
      parts[h]++;
      left--;
    }
    return parts[hearer];
  }

  private long couplings(int fewer, int more) {
    long ways = 0;
    if (fewer == 0) return 1;
    for (int i = 0; i < more; i++) ways += couplings(fewer - 1, more - 1);
    return ways;
  }

  int brides() {
    int paid = 0, others = 0;
    for (Hearer h : all.hearers) {
      if (h.there && h.paid > 0) paid++;
      if (h.there && h.paid == 0) others++;
    }
    return (int) (couplings(Math.min(paid, others), Math.max(paid, others)) % 1000000007L);
  }

  private static int grundy(int heap, int[] known) {
    TreeSet<Integer> next = new TreeSet<>();
    for (int take : new int[] {1, 3, 4}) if (heap >= take) next.add(known[heap - take]);
    int g = 0;
    while (next.contains(g)) g++;
    return g;
  }

  int game(int what) {
    if (what < 0 || what > 1) return NONE;
    int[] g = new int[61];
    for (int i = 0; i <= 60; i++) g[i] = grundy(i, g);
    for (int d = 0; d < all.deeds.size(); d++) {
      for (int take : new int[] {1, 3, 4}) {
        if (all.deeds.get(d).lasts < take) continue;
        int sum = g[all.deeds.get(d).lasts - take];
        for (int o = 0; o < all.deeds.size(); o++) if (o != d) sum ^= g[all.deeds.get(o).lasts];
        if (sum == 0) return what == 0 ? d : take;
      }
    }
    return NONE;
  }

  int eager(int d, int what) {
    if (!isDeed(d) || what < 0 || what > 1) return NONE;
    int best = NONE, most = NONE;
    for (int h = all.hearers.size() - 1; h >= 0; h--) {
      Hearer he = all.hearers.get(h);
      if (he.there && !he.gloves && clap(h, d) >= most) {
        most = clap(h, d);
        best = h;
      }
    }
    return what == 0 ? best : most;
  }

  int groups(int what) {
    if (what < 0 || what > 1) return NONE;
    List<TreeSet<Integer>> groups = new ArrayList<>();
    for (int h = 0; h < all.hearers.size(); h++) {
      TreeSet<Integer> met = new TreeSet<>();
      walk(h, 1, 4095, met);
      if (!groups.contains(met)) groups.add(met);
    }
    if (what == 0) return groups.size();
    TreeSet<Integer> best = new TreeSet<>();
    for (TreeSet<Integer> g : groups) if (g.size() > best.size()) best = g;
    return setOf(best);
  }

  int price(int h, int d) {
    if (!isHearer(h) || !isDeed(d)) return NONE;
    for (int more = 0; more + all.hearers.get(h).paid <= 99; more++) if (clap(h, d, 0, more) > 500) return more;
    return NONE;
  }

  int gain(int d) {
    if (!isDeed(d)) return NONE;
    int set = settles(d, 0), couples = 0;
    for (int a = 0; a < all.hearers.size(); a++)
      for (int b = a + 1; b < all.hearers.size(); b++)
        if (beside(a, b) && (set >> a & 1) != (set >> b & 1)) couples++;
    return couples;
  }

  int bargain(int what) {
    if (what < 0 || what > 1 || all.deeds.isEmpty()) return NONE;
    int best = 0;
    for (int d = 1; d < all.deeds.size(); d++) {
      Deed one = all.deeds.get(d), other = all.deeds.get(best);
      if ((long) one.worth * other.lasts > (long) other.worth * one.lasts) best = d;
    }
    return what == 0 ? best : all.deeds.get(best).worth * 60 / all.deeds.get(best).lasts;
  }

  int calm(int what) {
    if (what >= 10 && isDeed(what - 10)) return Integer.bitCount(look(8)) - Integer.bitCount(settles(what - 10, 0));
    if (what != 0 && what != 1) return NONE;
    int best = NONE, sum = 0;
    for (int h = 0; h < all.hearers.size(); h++) {
      Hearer he = all.hearers.get(h);
      if (!he.there) continue;
      sum += he.manners;
      if (best == NONE || he.manners > all.hearers.get(best).manners) best = h;
    }
    return what == 0 ? best : sum;
  }

  int tires(int d) {
    if (!isDeed(d)) return NONE;
    return think(m -> {
      for (int i = 0; i <= 99; i++) {
        if (m.all.deeds.get(d).wear == 99) return i;
        m.doOnce(d);
      }
      return NONE;
    });
  }

  boolean undo() {
    if (past.isEmpty()) return false;
    All was = past.removeLast();
    was.law = all.law;
    was.claque = all.claque;
    was.means = all.means;
    all = was;
    return true;
  }

  boolean image(boolean taken) {
    if (taken) {
      image = all.copy();
      return true;
    }
    if (image == null) return false;
    all = image.copy();
    past.clear();
    return true;
  }

  int look(int what) {
    switch (what) {
      case 0: return all.hearers.size();
      case 1: return all.deeds.size();
      case 2: return all.minute;
      case 3: return all.evening;
      case 4: return all.coin;
      case 5: return all.coughs;
      case 6: return all.now;
      case 7: return all.agains;
      case 8:
        int set = 0;
        for (int h = 0; h < all.hearers.size(); h++) if (all.hearers.get(h).there) set |= 1 << h;
        return set;
      case 9: return all.book.size();
      case 10: return all.state;
      case 11: return all.law.size();
      case 12: return all.statute.size();
      case 13: return all.programme.size();
      case 14: return all.gallery.size();
      case 15: return all.claque.size();
      case 16: return past.size();
      default: return NONE - 99999;
    }
  }
}
