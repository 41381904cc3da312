/**
 * Encores by law: whatever is applauded has to be done over.
 * Words in capitals are those of the document; a set is an int with a bit for each number.
 */
public final class Encores {
  public static final int NONE = -1;

  private static final int FAR = NONE - 99999;
  private static final int MOST_HEARERS = 12;
  private static final int MOST_DEEDS = 8;
  private static final int MOST_MINUTE = 9999;
  private static final int MOST_EVENING = 9999;
  private static final int MOST_COUGHS = 1000;
  private static final int MOST_PAID = 99;
  private static final int MOST_WEAR = 99;
  private static final int MOST_AGAINS = 20;
  private static final int MOST_LINES = 16;
  private static final int MOST_BYTES = 400;
  private static final int MOST_OPEN = 8;
  // a token, the text's end too, is looked at by two steps at most: one that leaves it, one that takes it or blames it
  private static final int MOST_STEPS = 2 * (MOST_BYTES + 1);
  // outside and in each ( an or and an and may wait, innermost a comparison, a sum and a product, and what comes last
  private static final int MOST_VALUES = 2 * (MOST_OPEN + 1) + 4;
  private static final int MOST_PAST = 6;
  private static final int IN_THOUGHT = 500;
  private static final int NEVER_REACHED = 1000000;
  private static final int PRIME = 1000000007;

  // the columns of a HEARER, as of() asks for them
  private static final int HANDS = 0;
  private static final int LIKES = 1;
  private static final int MANNERS = 2;
  private static final int THERE = 3;
  private static final int GLOVES = 4;
  private static final int PAID = 5;
  private static final int BESIDE = 6;
  private static final int COUNTS = 7;

  // the columns of a DEED, as deedOf() asks for them
  private static final int WORTH = 0;
  private static final int LONG = 1;
  private static final int COST = 2;
  private static final int WEAR = 3;
  private static final int DONE = 4;

  // the columns of the hour, as look() asks for them from 2 on
  private static final int MINUTE = 0;
  private static final int EVENING = 1;
  private static final int COIN = 2;
  private static final int COUGHS = 3;
  private static final int NOW = 4;
  private static final int AGAINS = 5;
  private static final int STATE = 6;

  // what a line of THE BOOK tells
  private static final int BOOK_DONE = 0;
  private static final int BOOK_AGAIN = 1;
  private static final int BOOK_COUGHED = 2;
  private static final int BOOK_PAID = 3;
  private static final int BOOK_GLOVES = 4;
  private static final int BOOK_LET = 5;

  // the texts
  private static final int THE_LAW = 0;
  private static final int THE_STATUTE = 1;
  private static final int PROGRAMME = 2;
  private static final int GALLERY = 3;

  // the kinds of tokens; a sign is its own kind, a KEYWORD is FIRST_WORD and its place among WORDS
  private static final int TEXT_ENDS = 0;
  private static final int NUMBER = 1;
  private static final int NO_TOKEN = 2;
  private static final int FIRST_WORD = 256;
  private static final String WORDS =
      "loud clap wears when or and not hearer hands likes manners paid worth wear agains beside late from most double end at deed ";
  private static final int LOUD_WORD = 256;
  private static final int CLAP_WORD = 257;
  private static final int WEARS_WORD = 258;
  private static final int WHEN_WORD = 259;
  private static final int OR_WORD = 260;
  private static final int AND_WORD = 261;
  private static final int NOT_WORD = 262;
  private static final int HEARER_WORD = 263;
  private static final int HANDS_WORD = 264;
  private static final int BESIDE_WORD = 271;
  private static final int LATE_WORD = 272;
  private static final int FROM_WORD = 273;
  private static final int MOST_WORD = 274;
  private static final int DOUBLE_WORD = 275;
  private static final int END_WORD = 276;
  private static final int AT_WORD = 277;
  private static final int DEED_WORD = 278;

  // what THE LAW can be asked, in the order of the values of its U
  private static final int ASK_HEARER = 0;
  private static final int ASK_HANDS = 1;
  private static final int ASK_LIKES = 2;
  private static final int ASK_MANNERS = 3;
  private static final int ASK_PAID = 4;
  private static final int ASK_WORTH = 5;
  private static final int ASK_WEAR = 6;
  private static final int ASK_AGAINS = 7;
  private static final int ASK_BESIDE = 8;
  private static final int ASK_LATE = 9;
  private static final int ASKED = 10;

  // the steps of THE LAW as it is kept: those that join come behind what they join
  private static final int OP_NUMBER = 0;
  private static final int OP_VALUE = 1;
  private static final int OP_TIMES = 2;
  private static final int OP_BY = 3;
  private static final int OP_PLUS = 4;
  private static final int OP_MINUS = 5;
  private static final int OP_LESS = 6;
  private static final int OP_SAME = 7;
  private static final int OP_MORE = 8;
  private static final int OP_NOT = 9;
  private static final int OP_AND = 10;
  private static final int OP_OR = 11;
  private static final int OP_BRACKET = 12;

  // what may stand next while a line of THE LAW is read
  private static final int CONDITION = 0;
  private static final int UNIT = 1;
  private static final int DIVISOR = 2;
  private static final int BEHIND_UNIT = 3;
  private static final int BEHIND_CONDITION = 4;
  private static final int FINISHED = 5;

  // where an E stands: as what a line tells, or left or right of a comparison
  private static final int ALONE = 0;
  private static final int LEFT = 1;
  private static final int RIGHT = 2;

  // Grundy's numbers of a heap from which 1, 3 or 4 are taken come again after seven
  private static final int HEAP_ROUND = 7;
  private static final int[] HEAP = {0, 1, 0, 1, 2, 3, 2};

  private final House house;
  private final House image;
  private boolean imageTaken;
  private final Past past;
  private final Moment before;
  private final Tape tape;
  private final Reader reader;
  private final Law law;
  private final Stage stage;
  private final Fewest fewest;
  private final Seats seats;
  private final Programme programme;
  // of the sets that fit, in how many each HEARER is
  private final int[] with = new int[MOST_HEARERS];

  public Encores() {
    house = new House();
    image = new House();
    imageTaken = false;
    past = new Past();
    before = new Moment();
    tape = new Tape();
    reader = new Reader(tape);
    law = new Law(house);
    stage = new Stage(house, law);
    fewest = new Fewest(house, law, stage);
    seats = new Seats(house);
    programme = new Programme(house);
  }

  // ==== what is told ====

  public int state(int v) {
    int was = house.hour(STATE);
    house.setHour(STATE, v);
    past.forget();
    return was;
  }

  public int hearer(int hands, int likes, int manners) {
    if (!within(hands, 0, 9) || !within(likes, 0, 9) || !within(manners, 0, 9)) {
      return NONE;
    }
    int number = house.hearers.lines;
    if (!house.hearers.add(hands, likes, manners, 1)) {
      return NONE;
    }
    house.hearers.put(number, COUNTS, 1);
    past.forget();
    return number;
  }

  public int deed(int worth, int lasts, int cost) {
    if (!within(worth, 0, 9) || !within(lasts, 1, 60) || !within(cost, 0, 99)) {
      return NONE;
    }
    int number = house.deeds.lines;
    if (!house.deeds.add(worth, lasts, cost, 0)) {
      return NONE;
    }
    past.forget();
    return number;
  }

  public boolean set(int what, int who, int v) {
    boolean is = false;
    switch (what) {
      case 0:
        is = within(v, 0, MOST_COUGHS);
        if (is) {
          house.setHour(COUGHS, v);
        }
        break;
      case 1:
        is = setTo(house.hearers, who, HANDS, v, 9);
        break;
      case 2:
        is = setTo(house.hearers, who, LIKES, v, 9);
        break;
      case 3:
        is = setTo(house.hearers, who, MANNERS, v, 9);
        break;
      case 4:
        is = setTo(house.deeds, who, WORTH, v, 9);
        break;
      case 5:
        is = setTo(house.deeds, who, WEAR, v, MOST_WEAR);
        break;
      default:
        break;
    }
    if (is) {
      past.forget();
    }
    return is;
  }

  private static boolean setTo(Table table, int line, int column, int v, int most) {
    if (!table.has(line) || !within(v, 0, most)) {
      return false;
    }
    table.put(line, column, v);
    return true;
  }

  // ==== what is done ====

  public int perform(int deed) {
    if (!house.deeds.has(deed)) {
      return NONE;
    }
    int latest = house.hour(MINUTE) + (MOST_AGAINS + 1) * house.deeds.at(deed, LONG);
    if (latest >= MOST_MINUTE) {
      return NONE;
    }
    past.keep(house);
    return stage.doWithAgains(deed);
  }

  public boolean pay(int hearer, int n) {
    if (!house.hearers.has(hearer) || !within(n, 1, MOST_PAID)) {
      return false;
    }
    past.keep(house);
    house.hearers.put(hearer, PAID, Math.min(MOST_PAID, house.hearers.at(hearer, PAID) + n));
    house.setHour(COIN, house.hour(COIN) - n);
    house.note(BOOK_PAID, hearer, n);
    return true;
  }

  public boolean glove(int hearer, boolean is) {
    return turn(hearer, GLOVES, is, BOOK_GLOVES);
  }

  public boolean let(int hearer, boolean in) {
    return turn(hearer, THERE, in, BOOK_LET);
  }

  private boolean turn(int hearer, int column, boolean on, int line) {
    int to = on ? 1 : 0;
    if (!house.hearers.has(hearer) || house.hearers.at(hearer, column) == to) {
      return false;
    }
    past.keep(house);
    house.hearers.put(hearer, column, to);
    house.note(line, hearer, to);
    return true;
  }

  public int evenings(int n) {
    if (!within(n, 1, 20) || house.hour(EVENING) + n > MOST_EVENING) {
      return NONE;
    }
    int times = 0;
    for (int i = 0; i < n; i++) {
      past.keep(house);
      times += stage.spendEvening();
    }
    return times;
  }

  // ==== the TAPE and the texts ====

  public int feed(int a, int b, int c, int d, int e) {
    if (!tape.hasRoom(20)) {
      return NONE;
    }
    tape.append(a);
    tape.append(b);
    tape.append(c);
    tape.append(d);
    tape.append(e);
    return tape.length;
  }

  public boolean end(int n) {
    if (!within(n, 0, tape.length)) {
      return false;
    }
    tape.length = n;
    return true;
  }

  public int text(int k) {
    reader.read(k, house.hearers.lines, house.deeds.lines);
    tape.length = 0;
    if (!within(k, THE_LAW, GALLERY) || reader.fault != 0) {
      return NONE;
    }
    house.takeText(k, reader.lines, reader.code);
    // THE LAW alone may change under what can be undone
    if (k != THE_LAW) {
      past.forget();
    }
    return reader.lines.lines;
  }

  public int fault(int what) {
    if (what == 0) {
      return reader.fault;
    }
    return what == 1 ? reader.faultPlace : NONE;
  }

  // ==== what is asked ====

  public int of(int hearer, int what) {
    if (!house.hearers.has(hearer)) {
      return NONE;
    }
    if (what < 10) {
      return house.hearers.at(hearer, what);
    }
    return house.deeds.has(what - 10) ? law.clap(hearer, what - 10, 0) : NONE;
  }

  public int deedOf(int deed, int what) {
    if (!house.deeds.has(deed)) {
      return NONE;
    }
    if (what == 5) {
      return law.ofDeed(LOUD_WORD, deed);
    }
    return what == 6 ? law.ofDeed(WEARS_WORD, deed) : house.deeds.at(deed, what);
  }

  public int statute(int what) {
    if (what == 0) {
      return house.handsDue();
    }
    if (what == 1) {
      return house.mostAgains();
    }
    return what == 2 ? house.endMinute() : NONE;
  }

  public int book(int i, int what) {
    return house.book.at(i, what);
  }

  public int look(int what) {
    if (what >= 2 && what <= 7) {
      return house.hour(what - 2);
    }
    switch (what) {
      case 0:
        return house.hearers.lines;
      case 1:
        return house.deeds.lines;
      case 8:
        return house.those(THERE);
      case 9:
        return house.book.lines;
      case 10:
        return house.hour(STATE);
      case 11:
        return house.laws.lines;
      case 12:
        return house.statute.lines;
      case 13:
        return house.programme.lines;
      case 14:
        return house.gallery.lines;
      case 15:
        return house.claque.lines;
      case 16:
        return past.many;
      default:
        return FAR;
    }
  }

  // ==== in thought: how evenings and DEEDS go ====

  public int goes(int what) {
    boolean asksDeed = what >= 10 && house.deeds.has(what - 10);
    if (what != 0 && what != 1 && !asksDeed) {
      return FAR;
    }
    int done = asksDeed ? house.deeds.at(what - 10, DONE) : 0;
    before.keep(house);
    stage.thinking = true;
    stage.spendEvening();
    stage.thinking = false;
    int answer = asksDeed ? house.deeds.at(what - 10, DONE) - done : house.hour(what == 0 ? MINUTE : COIN);
    before.back(house);
    return answer;
  }

  public int settles(int deed, int what) {
    if (!house.deeds.has(deed) || !within(what, 0, 2)) {
      return NONE;
    }
    int hands = settle(deed);
    if (what == 2) {
      return hands;
    }
    return what == 0 ? stage.clapping : stage.rounds;
  }

  /** A DEED is done once in thought: the hands; the stage knows then who clapped, in how many rounds. */
  private int settle(int deed) {
    before.keep(house);
    stage.thinking = true;
    stage.begin(deed);
    stage.applaud(deed);
    int hands = stage.handsAt(deed);
    stage.thinking = false;
    before.back(house);
    return hands;
  }

  public int makes(int deed, int k, int what) {
    if (!house.deeds.has(deed) || !within(k, 1, 5) || !within(what, 0, 1)) {
      return NONE;
    }
    return numberOrSet(fewestAway(deed, k), what);
  }

  public int brakes(int deed, int what) {
    if (!house.deeds.has(deed) || !within(what, 0, 1)) {
      return NONE;
    }
    // in thought nobody draws, so that gloves do just what going away does
    return numberOrSet(fewestAway(deed, 1), what);
  }

  private int fewestAway(int deed, int k) {
    before.keep(house);
    fewest.prepare(deed, k);
    before.back(house);
    return fewest.away(k);
  }

  private static int numberOrSet(int set, int what) {
    return set == NONE || what == 1 ? set : Integer.bitCount(set);
  }

  public int gain(int deed) {
    if (!house.deeds.has(deed)) {
      return NONE;
    }
    settle(deed);
    int couples = 0;
    for (int h = 0; h < house.hearers.lines; h++) {
      if (isIn(h, stage.clapping)) {
        couples += Integer.bitCount(house.hearers.at(h, BESIDE) & ~stage.clapping);
      }
    }
    return couples;
  }

  public int calm(int what) {
    if (what >= 10 && house.deeds.has(what - 10)) {
      settle(what - 10);
      return Integer.bitCount(house.those(THERE) & ~stage.clapping);
    }
    if (what != 0 && what != 1) {
      return NONE;
    }
    int calmest = NONE;
    int most = NONE;
    int sum = 0;
    for (int h = 0; h < house.hearers.lines; h++) {
      if (house.hearers.at(h, THERE) == 1) {
        int manners = house.hearers.at(h, MANNERS);
        sum += manners;
        if (manners > most) {
          most = manners;
          calmest = h;
        }
      }
    }
    return what == 0 ? calmest : sum;
  }

  public int tires(int deed) {
    if (!house.deeds.has(deed)) {
      return NONE;
    }
    before.keep(house);
    int times = 0;
    for (; times < 99 && house.deeds.at(deed, WEAR) < MOST_WEAR; times++) {
      stage.begin(deed);
    }
    boolean tired = house.deeds.at(deed, WEAR) >= MOST_WEAR;
    before.back(house);
    return tired ? times : NONE;
  }

  public int eager(int deed, int what) {
    if (!house.deeds.has(deed) || !within(what, 0, 1)) {
      return NONE;
    }
    int eagerest = NONE;
    int most = NONE;
    int ready = house.those(THERE) & ~house.those(GLOVES);
    for (int h = 0; h < house.hearers.lines; h++) {
      if (isIn(h, ready)) {
        int clap = law.clap(h, deed, 0);
        if (clap > most) {
          most = clap;
          eagerest = h;
        }
      }
    }
    return what == 0 ? eagerest : most;
  }

  public int price(int hearer, int deed) {
    if (!house.hearers.has(hearer) || !house.deeds.has(deed)) {
      return NONE;
    }
    int paid = house.hearers.at(hearer, PAID);
    for (int more = 0; more <= MOST_PAID - paid; more++) {
      if (law.clapIfPaid(hearer, deed, paid + more) > IN_THOUGHT) {
        return more;
      }
    }
    return NONE;
  }

  // ==== in thought: the order of DEEDS ====

  public int fills(int m, int what) {
    if (!within(m, 1, 999) || !within(what, 0, 1)) {
      return NONE;
    }
    int set = programme.fullest(m);
    return what == 1 ? set : programme.sumOf(WORTH, set);
  }

  public int lines(int deeds, int what) {
    if (deeds < 0 || deeds >= 1 << house.deeds.lines || !within(what, 0, 1)) {
      return NONE;
    }
    return what == 0 ? programme.leastSum(deeds) : programme.firstOf(deeds);
  }

  public int bargain(int what) {
    if (!within(what, 0, 1)) {
      return NONE;
    }
    int best = programme.firstOf((1 << house.deeds.lines) - 1);
    int lasts = house.deeds.at(best, LONG);
    if (what == 0 || lasts < 1) {
      return best;
    }
    return house.deeds.at(best, WORTH) * 60 / lasts;
  }

  public int game(int what) {
    if (!within(what, 0, 1)) {
      return NONE;
    }
    int heap = programme.winningHeap();
    return what == 0 || heap == NONE ? heap : programme.winningTake(heap);
  }

  // ==== in thought: who was paid ====

  public int claque(int hearers, int many) {
    if (hearers == NONE) {
      house.claque.lines = 0;
      return 0;
    }
    if (hearers < 0 || hearers >= 1 << house.hearers.lines || !within(many, 0, MOST_HEARERS)) {
      return NONE;
    }
    return house.claque.add(hearers, many, 0, 0) ? house.claque.lines : NONE;
  }

  public int fits(int what) {
    if (!within(what, 0, 3)) {
      return NONE;
    }
    clearWith();
    int many = 0;
    int least = NONE;
    int greatest = NONE;
    for (int set = 0; set < 1 << house.hearers.lines; set++) {
      if (couldBePaid(set)) {
        many++;
        least = least == NONE ? set : least;
        greatest = set;
        countWith(set);
      }
    }
    switch (what) {
      case 0:
        return many;
      case 1:
        return least;
      case 2:
        return greatest;
      default:
        return many < 2 ? NONE : whomToAsk(many);
    }
  }

  private boolean couldBePaid(int set) {
    for (int i = 0; i < house.claque.lines; i++) {
      if (Integer.bitCount(set & house.claque.at(i, 0)) != house.claque.at(i, 1)) {
        return false;
      }
    }
    return true;
  }

  private void clearWith() {
    for (int h = 0; h < with.length; h++) {
      with[h] = 0;
    }
  }

  private void countWith(int set) {
    for (int h = 0; h < with.length; h++) {
      with[h] += isIn(h, set) ? 1 : 0;
    }
  }

  private int whomToAsk(int many) {
    int best = NONE;
    int least = many;
    for (int h = 0; h < house.hearers.lines && h < with.length; h++) {
      int greater = Math.max(with[h], many - with[h]);
      // of two sets or more somebody is in one and not in another, so that he comes below many
      if (greater < least) {
        least = greater;
        best = h;
      }
    }
    return best;
  }

  public int brides() {
    int paid = 0;
    int others = 0;
    for (int h = 0; h < house.hearers.lines; h++) {
      if (house.hearers.at(h, THERE) == 1) {
        if (house.hearers.at(h, PAID) > 0) {
          paid++;
        } else {
          others++;
        }
      }
    }
    long ways = 1;
    int greater = Math.max(paid, others);
    for (int i = 0; i < Math.min(paid, others); i++) {
      ways = ways * (greater - i) % PRIME;
    }
    return (int) ways;
  }

  public int share(int n, int hearer) {
    int all = weightOfAll();
    if (!within(n, 0, 9999) || !house.hearers.has(hearer) || all < 1) {
      return NONE;
    }
    if (weight(hearer) == 0) {
      return 0;
    }
    int left = n;
    int ahead = 0;
    int own = n * weight(hearer);
    for (int h = 0; h < house.hearers.lines; h++) {
      int part = n * weight(h);
      left -= part / all;
      boolean comesFirst = part % all > own % all || part % all == own % all && h < hearer;
      if (weight(h) > 0 && comesFirst) {
        ahead++;
      }
    }
    return own / all + (ahead < left ? 1 : 0);
  }

  /** By what a HEARER bears of SHARES: 0, if he is not THERE. */
  private int weight(int hearer) {
    return house.hearers.at(hearer, THERE) == 1 ? house.hearers.at(hearer, LIKES) + 1 : 0;
  }

  private int weightOfAll() {
    int all = 0;
    for (int h = 0; h < house.hearers.lines; h++) {
      all += weight(h);
    }
    return all;
  }

  // ==== in thought: who sits beside whom ====

  public int near(int hearer, int n) {
    if (!house.hearers.has(hearer) || !within(n, 0, MOST_HEARERS)) {
      return NONE;
    }
    return seats.reached(1 << hearer, n, seats.all());
  }

  public int cuts(int a, int b, int what) {
    if (!house.hearers.has(a) || !house.hearers.has(b) || a == b || !within(what, 0, 1)) {
      return NONE;
    }
    if (isIn(b, house.hearers.at(a, BESIDE))) {
      return NONE;
    }
    return numberOrSet(seats.fewestBetween(a, b), what);
  }

  public int groups(int what) {
    if (!within(what, 0, 1)) {
      return NONE;
    }
    int many = 0;
    int greatest = 0;
    int met = 0;
    for (int h = 0; h < house.hearers.lines; h++) {
      if (!isIn(h, met)) {
        int group = seats.reached(1 << h, MOST_HEARERS, seats.all());
        met |= group;
        many++;
        if (Integer.bitCount(group) > Integer.bitCount(greatest)) {
          greatest = group;
        }
      }
    }
    return what == 0 ? many : greatest;
  }

  // ==== in thought: what a law means once it was passed again ====

  public boolean means(int v, int w) {
    if (!within(v, 0, 9) || !within(w, 0, 9)) {
      return false;
    }
    house.means.put(v, 0, w);
    return true;
  }

  public int passed(int v, int n, int what) {
    if (!within(v, 0, 9) || !within(what, 0, 2) || what == 0 && !within(n, 0, 9999)) {
      return NONE;
    }
    if (what == 0) {
      return meaningBehind(v, n);
    }
    int met = 0;
    int meaning = v;
    int times = 0;
    for (; times < 10 && !isIn(meaning, met); times++) {
      met |= 1 << meaning;
      meaning = house.means.at(meaning, 0);
    }
    return what == 1 ? times : timesRound(meaning);
  }

  private int meaningBehind(int v, int n) {
    int meaning = v;
    for (int i = 0; i < n; i++) {
      meaning = house.means.at(meaning, 0);
    }
    return meaning;
  }

  private int timesRound(int v) {
    int meaning = house.means.at(v, 0);
    int times = 1;
    for (; times < 10 && meaning != v; times++) {
      meaning = house.means.at(meaning, 0);
    }
    return times;
  }

  // ==== going back ====

  public boolean undo() {
    return past.back(house);
  }

  public boolean image(boolean taken) {
    if (taken) {
      image.copy(house);
      imageTaken = true;
      return true;
    }
    if (!imageTaken) {
      return false;
    }
    house.copy(image);
    past.forget();
    return true;
  }

  private static boolean within(int v, int least, int most) {
    return v >= least && v <= most;
  }

  /** Whether a number stands in a set. */
  private static boolean isIn(int number, int set) {
    return number >= 0 && number < 31 && (set >> number & 1) == 1;
  }

  /** Of the sets within one the next greater one; the empty one comes behind the last. */
  private static int nextWithin(int set, int whole) {
    return (set - whole) & whole;
  }

  /** Lines of numbers, which nobody can ask or change where there are none. */
  private static final class Table {
    private final int[] cells;
    private final int most;
    private final int wide;
    int lines;

    Table(int most, int wide) {
      this.most = Math.max(0, most);
      this.wide = Math.max(1, wide);
      cells = new int[Math.max(0, this.most * this.wide)];
      lines = 0;
    }

    boolean has(int line) {
      return line >= 0 && line < lines && line < most;
    }

    int at(int line, int column) {
      if (line < 0 || line >= lines || column < 0 || column >= wide) {
        return NONE;
      }
      int i = line * wide + column;
      return i >= 0 && i < cells.length ? cells[i] : NONE;
    }

    void put(int line, int column, int v) {
      if (line < 0 || line >= lines || column < 0 || column >= wide) {
        return;
      }
      int i = line * wide + column;
      if (i >= 0 && i < cells.length) {
        cells[i] = v;
      }
    }

    /** A line more, of the four numbers as many as the table is wide, the rest 0; false if it is full. */
    boolean add(int a, int b, int c, int d) {
      int first = lines * wide;
      if (lines < 0 || lines >= most || first < 0 || first > cells.length - wide) {
        return false;
      }
      for (int column = 0; column < wide && first + column < cells.length; column++) {
        cells[first + column] = column == 0 ? a : column == 1 ? b : column == 2 ? c : column == 3 ? d : 0;
      }
      lines++;
      return true;
    }

    void copy(Table other) {
      if (other.cells.length == cells.length) {
        System.arraycopy(other.cells, 0, cells, 0, cells.length);
        lines = other.lines;
      }
    }
  }

  /** All that is and was told, but the TAPE and what can be undone. */
  private static final class House {
    final Table hearers = new Table(MOST_HEARERS, 8);
    final Table deeds = new Table(MOST_DEEDS, 5);
    final Table hour = new Table(1, 7);
    final Table book = new Table(150, 4);
    final Table laws = new Table(MOST_LINES, 4);
    final Table code = new Table(MOST_BYTES, 2);
    final Table statute = new Table(MOST_LINES, 4);
    final Table programme = new Table(MOST_LINES, 4);
    final Table gallery = new Table(MOST_LINES, 4);
    final Table claque = new Table(8, 2);
    final Table means = new Table(10, 1);

    House() {
      hour.add(0, 0, 0, 0);
      hour.put(0, NOW, NONE);
      for (int v = 0; v < 10; v++) {
        means.add(v, 0, 0, 0);
      }
    }

    void copy(House other) {
      hearers.copy(other.hearers);
      deeds.copy(other.deeds);
      hour.copy(other.hour);
      book.copy(other.book);
      laws.copy(other.laws);
      code.copy(other.code);
      statute.copy(other.statute);
      programme.copy(other.programme);
      gallery.copy(other.gallery);
      claque.copy(other.claque);
      means.copy(other.means);
    }

    int hour(int what) {
      return hour.at(0, what);
    }

    void setHour(int what, int v) {
      hour.put(0, what, v);
    }

    void note(int what, int which, int much) {
      book.add(hour.at(0, EVENING), what, which, much);
    }

    /** The set of the HEARERS with a 1 in a column. */
    int those(int column) {
      int set = 0;
      for (int h = 0; h < hearers.lines; h++) {
        if (hearers.at(h, column) == 1) {
          set |= 1 << h;
        }
      }
      return set;
    }

    void takeText(int k, Table lines, Table steps) {
      switch (k) {
        case THE_LAW:
          laws.copy(lines);
          code.copy(steps);
          break;
        case THE_STATUTE:
          statute.copy(lines);
          countHands();
          break;
        case PROGRAMME:
          programme.copy(lines);
          break;
        case GALLERY:
          gallery.copy(lines);
          seat();
          break;
        default:
          break;
      }
    }

    private void countHands() {
      for (int h = 0; h < hearers.lines; h++) {
        hearers.put(h, COUNTS, 1);
      }
      for (int i = 0; i < statute.lines; i++) {
        if (statute.at(i, 0) == DOUBLE_WORD) {
          hearers.put(statute.at(i, 1), COUNTS, 2);
        }
      }
    }

    private void seat() {
      for (int h = 0; h < hearers.lines; h++) {
        int beside = 0;
        for (int i = 0; i < gallery.lines; i++) {
          if (gallery.at(i, 1) == h) {
            beside |= 1 << gallery.at(i, 2);
          }
          if (gallery.at(i, 2) == h) {
            beside |= 1 << gallery.at(i, 1);
          }
        }
        hearers.put(h, BESIDE, beside);
      }
    }

    int handsDue() {
      int due = 5;
      int from = NONE;
      for (int i = 0; i < statute.lines; i++) {
        int begins = statute.at(i, 2);
        if (statute.at(i, 0) == HANDS_WORD && begins >= from && begins <= hour.at(0, EVENING)) {
          from = begins;
          due = statute.at(i, 1);
        }
      }
      return due;
    }

    int mostAgains() {
      return lastOf(MOST_WORD, 9);
    }

    int endMinute() {
      return lastOf(END_WORD, 300);
    }

    private int lastOf(int word, int without) {
      int number = without;
      for (int i = 0; i < statute.lines; i++) {
        if (statute.at(i, 0) == word) {
          number = statute.at(i, 1);
        }
      }
      return number;
    }

    /** Whether what was just done may be done over, are there hands enough. */
    boolean mayGoOn() {
      return hour.at(0, AGAINS) < mostAgains() && hour.at(0, MINUTE) < endMinute();
    }
  }

  /** What doings change, as it was at some time. */
  private static final class Moment {
    private final Table hearers = new Table(MOST_HEARERS, 8);
    private final Table deeds = new Table(MOST_DEEDS, 5);
    private final Table hour = new Table(1, 7);
    private int booked;

    void keep(House house) {
      hearers.copy(house.hearers);
      deeds.copy(house.deeds);
      hour.copy(house.hour);
      booked = house.book.lines;
    }

    void back(House house) {
      house.hearers.copy(hearers);
      house.deeds.copy(deeds);
      house.hour.copy(hour);
      // lines of THE BOOK only come behind it, so that the earlier ones still stand
      house.book.lines = booked;
    }
  }

  /** What can be undone: the latest Moments, the oldest one overwritten by a seventh. */
  private static final class Past {
    private final Moment[] moments = new Moment[MOST_PAST];
    private int next;
    int many;

    Past() {
      for (int i = 0; i < moments.length; i++) {
        moments[i] = new Moment();
      }
    }

    void keep(House house) {
      Moment moment = momentAt(next);
      if (moment != null) {
        moment.keep(house);
      }
      next = next + 1 < MOST_PAST ? next + 1 : 0;
      many = Math.min(MOST_PAST, many + 1);
    }

    boolean back(House house) {
      if (many < 1) {
        return false;
      }
      next = next > 0 ? next - 1 : MOST_PAST - 1;
      many--;
      Moment moment = momentAt(next);
      if (moment != null) {
        moment.back(house);
      }
      return true;
    }

    void forget() {
      many = 0;
    }

    private Moment momentAt(int i) {
      return i >= 0 && i < moments.length ? moments[i] : null;
    }
  }

  /** The bytes that were fed, and the tokens that stand in them, of which one is looked at. */
  private static final class Tape {
    private final int[] bytes = new int[MOST_BYTES];
    private final Table tokens = new Table(MOST_BYTES + 1, 3);
    int length;
    int kind;
    int place;
    int number;
    private int token;

    boolean hasRoom(int many) {
      return length + many <= bytes.length;
    }

    void append(int four) {
      for (int shift = 24; shift >= 0; shift -= 8) {
        if (length >= 0 && length < bytes.length) {
          bytes[length] = four >> shift & 255;
          length++;
        }
      }
    }

    /** All tokens are taken; the first one is looked at. */
    void scan() {
      tokens.lines = 0;
      int from = 0;
      for (int i = 0; i < MOST_BYTES && from < length; i++) {
        from = isBlank(byteAt(from)) ? from + 1 : take(from);
      }
      tokens.add(TEXT_ENDS, length, 0, 0);
      token = NONE;
      next();
    }

    void next() {
      token++;
      kind = tokens.at(token, 0);
      place = tokens.at(token, 1);
      number = tokens.at(token, 2);
    }

    /** A token is taken: the place behind it. */
    private int take(int from) {
      int first = byteAt(from);
      if (isDigit(first)) {
        return takeNumber(from);
      }
      if (!isLetter(first)) {
        tokens.add(isSign(first) ? first : NO_TOKEN, from, 0, 0);
        return from + 1;
      }
      int to = from;
      while (to < length && isLetter(byteAt(to))) {
        to++;
      }
      tokens.add(wordAt(from, to), from, 0, 0);
      return to;
    }

    private int takeNumber(int from) {
      int value = 0;
      int to = from;
      for (; to < length && isDigit(byteAt(to)); to++) {
        value = value * 10 + byteAt(to) - '0';
      }
      tokens.add(to - from <= 4 ? NUMBER : NO_TOKEN, from, value, 0);
      return to;
    }

    private int wordAt(int from, int to) {
      int word = FIRST_WORD;
      int start = 0;
      for (int i = 0; i < WORDS.length(); i++) {
        if (WORDS.charAt(i) == ' ') {
          if (i - start == to - from && isSame(start, i, from)) {
            return word;
          }
          word++;
          start = i + 1;
        }
      }
      return NO_TOKEN;
    }

    private boolean isSame(int start, int end, int from) {
      for (int i = Math.max(0, start); i < end && i < WORDS.length(); i++) {
        if (WORDS.charAt(i) != byteAt(from + i - start)) {
          return false;
        }
      }
      return true;
    }

    private int byteAt(int i) {
      return i >= 0 && i < length && i < bytes.length ? bytes[i] : NONE;
    }

    private static boolean isBlank(int c) {
      return c == 32 || c == 10;
    }

    private static boolean isLetter(int c) {
      return c >= 'a' && c <= 'z' || c >= 'A' && c <= 'Z';
    }

    private static boolean isDigit(int c) {
      return c >= '0' && c <= '9';
    }

    private static boolean isSign(int c) {
      return c == ';' || c == '+' || c == '-' || c == '*' || c == '/' || c == '(' || c == ')'
          || c == '<' || c == '=' || c == '>';
    }
  }

  /** Reads the TAPE as a text into lines (and THE LAW's steps), or tells the first FAULT. */
  private static final class Reader {
    private final Tape tape;
    final Table lines = new Table(MOST_LINES, 4);
    final Table code = new Table(MOST_BYTES, 2);
    int fault;
    int faultPlace;
    private final Table waiting = new Table(MOST_BYTES, 1);
    private int open;
    private int brackets;
    private int side;
    private int line;
    private int hearers;
    private int deeds;

    Reader(Tape tape) {
      this.tape = tape;
      fault = 0;
      faultPlace = NONE;
    }

    void read(int k, int hearersThen, int deedsThen) {
      fault = 0;
      faultPlace = NONE;
      lines.lines = 0;
      code.lines = 0;
      hearers = hearersThen;
      deeds = deedsThen;
      if (!within(k, THE_LAW, GALLERY)) {
        return;
      }
      tape.scan();
      for (int i = 0; i <= MOST_BYTES && tape.kind != TEXT_ENDS && fault == 0; i++) {
        readLine(k);
      }
    }

    private void readLine(int k) {
      int word = tape.kind;
      if (!begins(k, word)) {
        blame(1);
        return;
      }
      line = lines.lines;
      if (!lines.add(word, 0, 0, 0)) {
        blame(3);
        return;
      }
      tape.next();
      switch (k) {
        case THE_LAW:
          readLaw();
          break;
        case THE_STATUTE:
          readStatute(word);
          break;
        case PROGRAMME:
          readNumber(1, 0, MOST_MINUTE);
          readWord(DEED_WORD);
          readNumber(2, 0, deeds - 1);
          readWord(';');
          break;
        default:
          readNumber(1, 0, hearers - 1);
          readWord(BESIDE_WORD);
          readNumber(2, 0, hearers - 1);
          readWord(';');
          break;
      }
    }

    private static boolean begins(int k, int word) {
      switch (k) {
        case THE_LAW:
          return within(word, LOUD_WORD, WEARS_WORD);
        case THE_STATUTE:
          return word == HANDS_WORD || within(word, MOST_WORD, END_WORD);
        case PROGRAMME:
          return word == AT_WORD;
        default:
          return word == HEARER_WORD;
      }
    }

    private void readStatute(int word) {
      switch (word) {
        case HANDS_WORD:
          readNumber(1, 1, 99);
          readWord(FROM_WORD);
          readNumber(2, 0, MOST_EVENING);
          break;
        case MOST_WORD:
          readNumber(1, 0, MOST_AGAINS);
          break;
        case DOUBLE_WORD:
          readNumber(1, 0, hearers - 1);
          break;
        default:
          readNumber(1, 1, MOST_MINUTE);
          break;
      }
      readWord(';');
    }

    private void readWord(int word) {
      if (fault != 0) {
        return;
      }
      if (tape.kind != word) {
        blame(1);
        return;
      }
      tape.next();
    }

    private void readNumber(int column, int least, int most) {
      if (fault != 0) {
        return;
      }
      if (tape.kind != NUMBER) {
        blame(1);
        return;
      }
      boolean alike = column == 2 && lines.at(line, 0) == HEARER_WORD && lines.at(line, 1) == tape.number;
      if (!within(tape.number, least, most) || alike) {
        blame(2);
        return;
      }
      lines.put(line, column, tape.number);
      tape.next();
    }

    private void blame(int what) {
      if (fault == 0) {
        fault = what;
        faultPlace = tape.place;
      }
    }

    // A line of THE LAW: its word, where E's steps begin, where they end and those of B begin, where B's end.
    private void readLaw() {
      waiting.lines = 0;
      open = 0;
      brackets = 0;
      side = ALONE;
      lines.put(line, 1, code.lines);
      int expected = UNIT;
      for (int i = 0; i < MOST_STEPS && expected != FINISHED && fault == 0; i++) {
        switch (expected) {
          case CONDITION:
            expected = readCondition();
            break;
          case UNIT:
            expected = readUnit();
            break;
          case DIVISOR:
            expected = readDivisor();
            break;
          case BEHIND_UNIT:
            expected = readBehindUnit();
            break;
          default:
            expected = readBehindCondition();
            break;
        }
      }
    }

    private int readCondition() {
      boolean bracket = tape.kind == '(';
      if (!bracket && tape.kind != NOT_WORD) {
        side = LEFT;
        return UNIT;
      }
      if (open >= MOST_OPEN) {
        return failed(3);
      }
      waiting.add(bracket ? OP_BRACKET : OP_NOT, 0, 0, 0);
      open++;
      brackets += bracket ? 1 : 0;
      tape.next();
      return CONDITION;
    }

    private int readUnit() {
      if (tape.kind == NUMBER) {
        code.add(OP_NUMBER, tape.number, 0, 0);
      } else if (within(tape.kind, HEARER_WORD, LATE_WORD)) {
        code.add(OP_VALUE, tape.kind - HEARER_WORD, 0, 0);
      } else {
        return failed(1);
      }
      tape.next();
      return BEHIND_UNIT;
    }

    private int readDivisor() {
      if (tape.kind == NUMBER && tape.number == 0) {
        return failed(2);
      }
      return tape.kind == NUMBER ? readUnit() : failed(1);
    }

    private int readBehindUnit() {
      int op = opOf(tape.kind);
      if (within(op, OP_TIMES, OP_MINUS)) {
        join(op);
        return op == OP_BY ? DIVISOR : UNIT;
      }
      if (within(op, OP_LESS, OP_MORE) && side == LEFT) {
        side = RIGHT;
        join(op);
        return UNIT;
      }
      if (tape.kind == WHEN_WORD && side == ALONE) {
        dropDownTo(0);
        lines.put(line, 2, code.lines);
        tape.next();
        return CONDITION;
      }
      if (tape.kind == ';' && side == ALONE) {
        dropDownTo(0);
        lines.put(line, 2, code.lines);
        return finish();
      }
      return side == RIGHT ? BEHIND_CONDITION : failed(1);
    }

    private int readBehindCondition() {
      int op = opOf(tape.kind);
      if (op == OP_AND || op == OP_OR) {
        join(op);
        return CONDITION;
      }
      if (tape.kind == ')' && brackets > 0) {
        dropDownTo(0);
        waiting.lines = Math.max(0, waiting.lines - 1);
        open--;
        brackets--;
        tape.next();
        return BEHIND_CONDITION;
      }
      if (tape.kind == ';' && brackets == 0) {
        dropDownTo(0);
        return finish();
      }
      return failed(1);
    }

    private int finish() {
      lines.put(line, 3, code.lines);
      tape.next();
      return FINISHED;
    }

    private int failed(int what) {
      blame(what);
      return FINISHED;
    }

    /** What binds at least as strongly and waits for its right side has it now; then this one waits. */
    private void join(int op) {
      dropDownTo(strength(op));
      waiting.add(op, 0, 0, 0);
      tape.next();
    }

    private void dropDownTo(int least) {
      for (int i = waiting.lines - 1; i >= 0; i--) {
        int op = waiting.at(i, 0);
        if (op == OP_BRACKET || strength(op) < least) {
          return;
        }
        code.add(op, 0, 0, 0);
        waiting.lines = i;
        open -= op == OP_NOT ? 1 : 0;
      }
    }

    private static int strength(int op) {
      switch (op) {
        case OP_TIMES:
        case OP_BY:
          return 6;
        case OP_PLUS:
        case OP_MINUS:
          return 5;
        case OP_LESS:
        case OP_SAME:
        case OP_MORE:
          return 4;
        case OP_NOT:
          return 3;
        case OP_AND:
          return 2;
        default:
          return 1;
      }
    }

    private static int opOf(int kind) {
      switch (kind) {
        case '*':
          return OP_TIMES;
        case '/':
          return OP_BY;
        case '+':
          return OP_PLUS;
        case '-':
          return OP_MINUS;
        case '<':
          return OP_LESS;
        case '=':
          return OP_SAME;
        case '>':
          return OP_MORE;
        case AND_WORD:
          return OP_AND;
        case OR_WORD:
          return OP_OR;
        default:
          return NONE;
      }
    }
  }

  /** Tells how loud, how eager, how worn by THE LAW. */
  private static final class Law {
    private final House house;
    private final int[] asked = new int[ASKED];
    private final int[] stack = new int[MOST_VALUES];

    Law(House house) {
      this.house = house;
    }

    /** clap of a HEARER at a DEED with so many beside him who clap already. */
    int clap(int hearer, int deed, int beside) {
      askOf(hearer, deed, beside);
      return tell(CLAP_WORD);
    }

    int clapIfPaid(int hearer, int deed, int paid) {
      askOf(hearer, deed, 0);
      ask(ASK_PAID, paid);
      return tell(CLAP_WORD);
    }

    /** loud or wears of a DEED. */
    int ofDeed(int word, int deed) {
      askOf(NONE, deed, 0);
      return tell(word);
    }

    private void askOf(int hearer, int deed, int beside) {
      boolean of = house.hearers.has(hearer);
      ask(ASK_HEARER, of ? hearer : 0);
      ask(ASK_HANDS, of ? house.hearers.at(hearer, HANDS) : 0);
      ask(ASK_LIKES, of ? house.hearers.at(hearer, LIKES) : 0);
      ask(ASK_MANNERS, of ? house.hearers.at(hearer, MANNERS) : 0);
      ask(ASK_PAID, of ? house.hearers.at(hearer, PAID) : 0);
      ask(ASK_WORTH, house.deeds.at(deed, WORTH));
      ask(ASK_WEAR, house.deeds.at(deed, WEAR));
      ask(ASK_AGAINS, house.hour.at(0, AGAINS));
      ask(ASK_BESIDE, beside);
      ask(ASK_LATE, house.hour.at(0, MINUTE) / 60);
    }

    private void ask(int value, int v) {
      if (value >= 0 && value < asked.length) {
        asked[value] = v;
      }
    }

    private int answer(int value) {
      return value >= 0 && value < asked.length ? asked[value] : 0;
    }

    private int tell(int word) {
      for (int i = 0; i < house.laws.lines; i++) {
        int from = house.laws.at(i, 1);
        int to = house.laws.at(i, 2);
        int end = house.laws.at(i, 3);
        if (house.laws.at(i, 0) == word && (to == end || run(to, end) != 0)) {
          return held(word, run(from, to));
        }
      }
      switch (word) {
        case LOUD_WORD:
          return answer(ASK_WORTH) / 3;
        case CLAP_WORD:
          return answer(ASK_LIKES) * 100;
        default:
          return 2;
      }
    }

    private static int held(int word, int v) {
      return Math.max(0, Math.min(word == CLAP_WORD ? 1000 : 99, v));
    }

    /** What the steps from .. to come to; a condition comes to 1 or 0. */
    private int run(int from, int to) {
      int top = 0;
      for (int i = from; i < to; i++) {
        int op = house.code.at(i, 0);
        int v = house.code.at(i, 1);
        if (op == OP_NUMBER || op == OP_VALUE) {
          if (top < 0 || top >= stack.length) {
            return 0;
          }
          stack[top] = op == OP_NUMBER ? v : answer(v);
          top++;
        } else if (op == OP_NOT) {
          if (top < 1 || top > stack.length) {
            return 0;
          }
          stack[top - 1] = stack[top - 1] == 0 ? 1 : 0;
        } else {
          if (top < 2 || top > stack.length) {
            return 0;
          }
          stack[top - 2] = joined(op, stack[top - 2], stack[top - 1]);
          top--;
        }
      }
      return top > 0 && top <= stack.length ? stack[top - 1] : 0;
    }

    private static int joined(int op, int left, int right) {
      switch (op) {
        case OP_TIMES:
          return left * right;
        case OP_BY:
          return right == 0 ? 0 : left / right;
        case OP_PLUS:
          return left + right;
        case OP_MINUS:
          return left - right;
        case OP_LESS:
          return left < right ? 1 : 0;
        case OP_SAME:
          return left == right ? 1 : 0;
        case OP_MORE:
          return left > right ? 1 : 0;
        case OP_AND:
          return left & right;
        case OP_OR:
          return left | right;
        default:
          return 0;
      }
    }
  }

  /** Where DEEDS are done and clapped, in earnest or in thought. */
  private static final class Stage {
    private final House house;
    private final Law law;
    private final int[] own = new int[MOST_HEARERS];
    private final int[] beside = new int[MOST_HEARERS];
    boolean thinking;
    int clapping;
    int rounds;

    Stage(House house, Law law) {
      this.house = house;
      this.law = law;
    }

    /** An EVENING: how many DEEDS were done. */
    int spendEvening() {
      house.setHour(MINUTE, 0);
      house.setHour(NOW, NONE);
      house.setHour(AGAINS, 0);
      int times = 0;
      for (int i = 0; i < house.programme.lines; i++) {
        house.setHour(MINUTE, Math.max(house.hour(MINUTE), house.programme.at(i, 1)));
        if (house.hour(MINUTE) < house.endMinute()) {
          times += doWithAgains(house.programme.at(i, 2));
        }
      }
      house.setHour(EVENING, house.hour(EVENING) + 1);
      return times;
    }

    /** To DO a DEED, over and over as THE STATUTE tells: how often. */
    int doWithAgains(int deed) {
      int times = 0;
      boolean again = true;
      for (int i = 0; i <= MOST_AGAINS && again; i++) {
        begin(deed);
        drawEach();
        applaud(deed);
        boolean coughed = coughs();
        int hands = coughed ? 0 : handsAt(deed);
        noteDone(deed, coughed, hands);
        times++;
        again = !coughed && hands >= house.handsDue() && house.mayGoOn();
      }
      return times;
    }

    /** What comes with doing it, whoever hears it. */
    void begin(int deed) {
      house.setHour(AGAINS, house.hour(NOW) == deed ? house.hour(AGAINS) + 1 : 0);
      int wears = law.ofDeed(WEARS_WORD, deed);
      house.setHour(NOW, deed);
      house.setHour(MINUTE, house.hour(MINUTE) + house.deeds.at(deed, LONG));
      house.setHour(COIN, house.hour(COIN) - house.deeds.at(deed, COST));
      house.deeds.put(deed, DONE, house.deeds.at(deed, DONE) + 1);
      house.deeds.put(deed, WEAR, Math.min(MOST_WEAR, house.deeds.at(deed, WEAR) + wears));
    }

    private int draw(int m) {
      int state = house.hour(STATE) * 1664525 + 1013904223;
      house.setHour(STATE, state);
      return m > 0 ? (state >>> 8) % m : 0;
    }

    private void drawEach() {
      for (int h = 0; h < house.hearers.lines && h < own.length && !thinking; h++) {
        if (house.hearers.at(h, THERE) == 1) {
          own[h] = draw(1000);
        }
      }
    }

    /** Round by round, till nobody begins: who claps, and in how many rounds somebody began. */
    void applaud(int deed) {
      clapping = 0;
      rounds = 0;
      for (int h = 0; h < beside.length; h++) {
        beside[h] = NONE;
      }
      int ready = house.those(THERE) & ~house.those(GLOVES);
      boolean begun = true;
      for (int round = 0; round <= MOST_HEARERS && begun; round++) {
        int already = clapping;
        for (int h = 0; h < house.hearers.lines && h < own.length && h < beside.length; h++) {
          if (isIn(h, ready & ~clapping)) {
            int now = Integer.bitCount(house.hearers.at(h, BESIDE) & clapping);
            int drawn = thinking ? IN_THOUGHT : own[h];
            // with as many beside him as when he was last asked he would answer the same
            if (beside[h] != now && drawn < law.clap(h, deed, now)) {
              clapping |= 1 << h;
            }
            beside[h] = now;
          }
        }
        begun = clapping != already;
        rounds += begun ? 1 : 0;
      }
    }

    private boolean coughs() {
      return !thinking && house.hour(COUGHS) > 0 && draw(1000) < house.hour(COUGHS);
    }

    /** The hands for a DEED by those who clap now, and how loud it is. */
    int handsAt(int deed) {
      return handsOf(clapping) + law.ofDeed(LOUD_WORD, deed);
    }

    int handsOf(int set) {
      int hands = 0;
      for (int h = 0; h < house.hearers.lines; h++) {
        if (isIn(h, set)) {
          hands += house.hearers.at(h, HANDS) * house.hearers.at(h, COUNTS);
        }
      }
      return hands;
    }

    private void noteDone(int deed, boolean coughed, int hands) {
      if (thinking) {
        return;
      }
      if (coughed) {
        house.note(BOOK_COUGHED, deed, 0);
      }
      house.note(house.hour(AGAINS) > 0 ? BOOK_AGAIN : BOOK_DONE, deed, hands);
    }
  }

  /** The fewest HEARERS to be silenced so that a DEED is done just so often, in thought. */
  private static final class Fewest {
    private final House house;
    private final Law law;
    private final Stage stage;
    // for each time it is done: of each HEARER a bit for each number beside him at which he would clap
    private final Table claps = new Table(5, MOST_HEARERS);
    private final Table due = new Table(5, 1);
    private int ready;
    private boolean hopeless;

    Fewest(House house, Law law, Stage stage) {
      this.house = house;
      this.law = law;
      this.stage = stage;
    }

    /** What each of the first k times is like: nothing of that depends on who is silenced. */
    void prepare(int deed, int k) {
      claps.lines = 0;
      due.lines = 0;
      ready = 0;
      hopeless = false;
      for (int time = 0; time < k; time++) {
        stage.begin(deed);
        int hands = house.mayGoOn() ? house.handsDue() - law.ofDeed(LOUD_WORD, deed) : NEVER_REACHED;
        due.add(hands, 0, 0, 0);
        int may = prepareClaps(time, deed);
        // whoever never claps need not be silenced
        ready |= may;
        // all the hands that there may be are too few to go on, or none at all are enough when it should end
        hopeless |= time < k - 1 ? stage.handsOf(may) < hands : hands <= 0;
      }
    }

    /** Who may clap at all. */
    private int prepareClaps(int time, int deed) {
      int those = house.those(THERE) & ~house.those(GLOVES);
      int may = 0;
      claps.add(0, 0, 0, 0);
      for (int h = 0; h < house.hearers.lines; h++) {
        int most = isIn(h, those) ? Integer.bitCount(house.hearers.at(h, BESIDE)) : NONE;
        int bits = 0;
        for (int beside = 0; beside <= most; beside++) {
          bits |= law.clap(h, deed, beside) > IN_THOUGHT ? 1 << beside : 0;
        }
        claps.put(time, h, bits);
        may |= bits != 0 ? 1 << h : 0;
      }
      return may;
    }

    /** The set to be silenced so that what was prepared is done just k times, or NONE. */
    int away(int k) {
      int best = NONE;
      int set = 0;
      for (int i = 0; i < 1 << MOST_HEARERS && !hopeless; i++) {
        boolean fewer = best == NONE || Integer.bitCount(set) < Integer.bitCount(best);
        if (fewer && isDone(k, ready & ~set)) {
          best = set;
        }
        set = nextWithin(set, ready);
        if (set == 0) {
          break;
        }
      }
      return best;
    }

    /** Whether it is done just k times before those. */
    private boolean isDone(int k, int those) {
      for (int time = 0; time < k; time++) {
        boolean again = stage.handsOf(clappingAt(time, those)) >= due.at(time, 0);
        if (again != time < k - 1) {
          return false;
        }
      }
      return true;
    }

    private int clappingAt(int time, int those) {
      int clapping = 0;
      boolean begun = true;
      for (int round = 0; round <= MOST_HEARERS && begun; round++) {
        int already = clapping;
        for (int h = 0; h < house.hearers.lines; h++) {
          if (isIn(h, those & ~clapping)) {
            int beside = Integer.bitCount(house.hearers.at(h, BESIDE) & clapping);
            clapping |= isIn(beside, claps.at(time, h)) ? 1 << h : 0;
          }
        }
        begun = clapping != already;
      }
      return clapping;
    }
  }

  /** Who can be reached from whom along GALLERY. */
  private static final class Seats {
    private final House house;

    Seats(House house) {
      this.house = house;
    }

    int all() {
      return (1 << house.hearers.lines) - 1;
    }

    /** Whom one comes to from a set in so many steps over those alone. */
    int reached(int from, int steps, int those) {
      int set = from;
      for (int i = 0; i < steps && i < MOST_HEARERS; i++) {
        int wider = set;
        for (int h = 0; h < house.hearers.lines; h++) {
          if (isIn(h, set)) {
            wider |= house.hearers.at(h, BESIDE) & those;
          }
        }
        if (wider == set) {
          return set;
        }
        set = wider;
      }
      return set;
    }

    /** The least of the fewest others whose gloves stop all clapping from a to b. */
    int fewestBetween(int a, int b) {
      int both = 1 << a | 1 << b;
      int others = all() & ~both & ~house.those(GLOVES);
      int best = NONE;
      int set = 0;
      for (int i = 0; i < 1 << MOST_HEARERS; i++) {
        boolean fewer = best == NONE || Integer.bitCount(set) < Integer.bitCount(best);
        if (fewer && !isIn(b, reached(1 << a, MOST_HEARERS, others & ~set | both))) {
          best = set;
        }
        set = nextWithin(set, others);
        if (set == 0) {
          break;
        }
      }
      return best;
    }
  }

  /** What is thought of DEEDS by their WORTH and LONG alone. */
  private static final class Programme {
    private final House house;

    Programme(House house) {
      this.house = house;
    }

    int sumOf(int column, int set) {
      int sum = 0;
      for (int d = 0; d < house.deeds.lines; d++) {
        if (isIn(d, set)) {
          sum += house.deeds.at(d, column);
        }
      }
      return sum;
    }

    /** The least of the sets with the most WORTH in m minutes. */
    int fullest(int m) {
      int best = 0;
      for (int set = 0; set < 1 << house.deeds.lines; set++) {
        if (sumOf(LONG, set) <= m && sumOf(WORTH, set) > sumOf(WORTH, best)) {
          best = set;
        }
      }
      return best;
    }

    /** The least DEED of a set with most WORTH for its LONG: with such a one the best order begins. */
    int firstOf(int set) {
      int best = NONE;
      for (int d = 0; d < house.deeds.lines; d++) {
        if (isIn(d, set) && (best == NONE || isWorthMore(d, best))) {
          best = d;
        }
      }
      return best;
    }

    private boolean isWorthMore(int d, int than) {
      return house.deeds.at(d, WORTH) * house.deeds.at(than, LONG)
          > house.deeds.at(than, WORTH) * house.deeds.at(d, LONG);
    }

    int leastSum(int set) {
      int sum = 0;
      int minute = 0;
      int rest = set;
      for (int i = 0; i < MOST_DEEDS && rest != 0; i++) {
        int first = firstOf(rest);
        if (first == NONE) {
          return sum;
        }
        minute += house.deeds.at(first, LONG);
        sum += house.deeds.at(first, WORTH) * minute;
        rest &= ~(1 << first);
      }
      return sum;
    }

    /** The least DEED from which who begins well takes. */
    int winningHeap() {
      for (int d = 0; d < house.deeds.lines; d++) {
        if (winningTake(d) != NONE) {
          return d;
        }
      }
      return NONE;
    }

    /** The fewest minutes of a DEED that leave nothing to win to the other, or NONE. */
    int winningTake(int deed) {
      int others = 0;
      for (int d = 0; d < house.deeds.lines; d++) {
        others ^= d == deed ? 0 : grundy(house.deeds.at(d, LONG));
      }
      int lasts = house.deeds.at(deed, LONG);
      for (int take = 1; take <= 4 && take <= lasts; take++) {
        if (take != 2 && grundy(lasts - take) == others) {
          return take;
        }
      }
      return NONE;
    }

    private static int grundy(int minutes) {
      int i = minutes >= 0 ? minutes % HEAP_ROUND : 0;
      return i >= 0 && i < HEAP.length ? HEAP[i] : 0;
    }
  }
}
