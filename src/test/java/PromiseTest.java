/** Promise by promise: ordinary calls, the edges that the document names, and wrong calls; all dues told by hand. */
public final class PromiseTest {
  private static final int NONE = -1;
  private static final int FAR = -100000;
  private static final int LEAST = Integer.MIN_VALUE;
  private static final int GREATEST = Integer.MAX_VALUE;
  private static int promise;
  private static int checks;
  private static int wrong;

  private static void due(String what, int got, int due) {
    checks++;
    if (got != due) {
      wrong++;
      System.out.println("promise " + promise + ": " + what + " answered " + got + ", due is " + due);
    }
  }

  private static void due(String what, boolean got, boolean due) {
    due(what, got ? 1 : 0, due ? 1 : 0);
  }

  private static void fails(Counted x, int k, String text, int fault, int place) {
    int before = x.look(11 + k);
    due("text of " + text, x.text(k, text), NONE);
    due("fault of " + text, x.fault(0), fault);
    due("place in " + text, x.fault(1), place);
    due("lines of the text that stays", x.look(11 + k), before);
  }

  private static void reads(Counted x, int k, String text, int lines) {
    due("text of " + text, x.text(k, text), lines);
    due("fault of " + text, x.fault(0), 0);
    due("place in " + text, x.fault(1), NONE);
    due("lines", x.look(11 + k), lines);
  }

  /** On an object of its own: it, with the text told. */
  private static Counted reads(int k, String text, int lines) {
    Counted x = row();
    reads(x, k, text, lines);
    return x;
  }

  private static void fails(int k, String text, int fault, int place) {
    fails(row(), k, text, fault, place);
  }

  private static void tellsLoud(String what, String text, int lines, int loud) {
    due(what, reads(0, text, lines).deedOf(0, 5), loud);
  }

  /** Three HEARERS in a row, 0 - 1 - 2, and two DEEDS. */
  private static Counted row() {
    Counted x = new Counted();
    x.hearer(2, 9, 1);
    x.hearer(3, 4, 2);
    x.hearer(1, 6, 3);
    x.deed(9, 10, 5);
    x.deed(3, 20, 1);
    x.text(3, "hearer 0 beside 1; hearer 1 beside 2;");
    return x;
  }

  private static Counted people(int hearers, int deeds) {
    Counted x = new Counted();
    for (int i = 0; i < hearers; i++) x.hearer(1, 9, 0);
    for (int i = 0; i < deeds; i++) x.deed(3, 10, 0);
    return x;
  }

  private static void newObject() {
    Counted x = new Counted();
    due("the constant", Encores.NONE, -1);
    for (int what = 0; what <= 16; what++) due("look " + what, x.look(what), what == 6 ? NONE : 0);
    due("statute 0", x.statute(0), 5);
    due("statute 1", x.statute(1), 9);
    due("statute 2", x.statute(2), 300);
    due("fault 0", x.fault(0), 0);
    due("fault 1", x.fault(1), NONE);
    due("undo", x.undo(), false);
    due("image", x.image(false), false);
    for (int v = 0; v < 10; v++) due("passed", x.passed(v, 1, 0), v);
  }

  private static void state() {
    Counted x = row();
    due("state", x.state(7), 0);
    due("state", x.state(LEAST), 7);
    due("state", x.state(-1), LEAST);
    due("look", x.look(10), -1);
    x.pay(0, 1);
    x.state(3);
    due("what can be undone", x.look(16), 0);
    // 3 times 1664525 + 1013904223 = 1018897798; one HEARER draws: 1018897798 >>> 8 = 3980069, modulo 1000 = 69
    Counted y = new Counted();
    y.hearer(7, 0, 0);
    y.deed(0, 1, 0);
    y.text(0, "clap 70;");
    y.text(1, "most 0;");
    y.state(3);
    y.perform(0);
    due("STATE behind one draw", y.look(10), 1018897798);
    due("hands", y.book(0, 3), 7);
    y.text(0, "clap 69;");
    y.state(3);
    y.perform(0);
    due("hands, the draw not below clap", y.book(1, 3), 0);
  }

  private static void hearers() {
    Counted x = new Counted();
    int[][] bad = {{-1, 0, 0}, {10, 0, 0}, {0, -1, 0}, {0, 10, 0}, {0, 0, -1}, {0, 0, 10}, {LEAST, 0, 0}, {0, GREATEST, 0}};
    for (int[] b : bad) due("a wrong hearer", x.hearer(b[0], b[1], b[2]), NONE);
    due("hearers", x.look(0), 0);
    x.evenings(1);
    x.hearer(10, 0, 0);
    due("a wrong one forgets nothing", x.look(16), 1);
    for (int i = 0; i < 12; i++) due("hearer", x.hearer(i % 10, 9 - i % 10, i % 4), i);
    due("what can be undone", x.look(16), 0);
    due("the thirteenth", x.hearer(0, 0, 0), NONE);
    due("hearers", x.look(0), 12);
    due("those there", x.look(8), 4095);
    due("hands", x.of(9, 0), 9);
    due("likes", x.of(9, 1), 0);
    due("manners", x.of(9, 2), 1);
    due("there", x.of(9, 3), 1);
    due("gloves", x.of(9, 4), 0);
    due("paid", x.of(9, 5), 0);
  }

  private static void deeds() {
    Counted x = new Counted();
    int[][] bad = {{-1, 1, 0}, {10, 1, 0}, {0, 0, 0}, {0, 61, 0}, {0, 1, -1}, {0, 1, 100}, {0, LEAST, 0}};
    for (int[] b : bad) due("a wrong deed", x.deed(b[0], b[1], b[2]), NONE);
    x.evenings(1);
    x.deed(0, 0, 0);
    due("a wrong one forgets nothing", x.look(16), 1);
    due("deed", x.deed(9, 60, 99), 0);
    due("what can be undone", x.look(16), 0);
    for (int i = 1; i < 8; i++) due("deed", x.deed(0, 1, 0), i);
    due("the ninth", x.deed(0, 1, 0), NONE);
    due("deeds", x.look(1), 8);
    due("worth", x.deedOf(0, 0), 9);
    due("long", x.deedOf(0, 1), 60);
    due("cost", x.deedOf(0, 2), 99);
    due("wear", x.deedOf(0, 3), 0);
    due("done", x.deedOf(0, 4), 0);
  }

  private static void sets() {
    Counted x = row();
    x.pay(0, 1);
    int[][] bad = {{0, 0, -1}, {0, 0, 1001}, {1, 0, 10}, {1, 0, -1}, {1, 3, 5}, {1, -1, 5}, {2, 0, 10}, {2, 3, 1},
      {3, 0, 10}, {3, -1, 1}, {4, 0, 10}, {4, 2, 1}, {4, -1, 1}, {5, 0, 100}, {5, 0, -1}, {5, 2, 1}, {6, 0, 0}, {-1, 0, 0},
      {LEAST, 0, 0}, {GREATEST, 0, 0}};
    for (int[] b : bad) due("a wrong set", x.set(b[0], b[1], b[2]), false);
    due("they forget nothing", x.look(16), 1);
    due("coughs, nobody asked", x.set(0, -77, 1000), true);
    due("coughs", x.look(5), 1000);
    due("what can be undone", x.look(16), 0);
    due("set", x.set(1, 2, 9), true);
    due("set", x.set(2, 2, 8), true);
    due("set", x.set(3, 2, 7), true);
    due("set", x.set(4, 1, 6), true);
    due("set", x.set(5, 1, 99), true);
    due("hands", x.of(2, 0), 9);
    due("likes", x.of(2, 1), 8);
    due("manners", x.of(2, 2), 7);
    due("worth", x.deedOf(1, 0), 6);
    due("wear", x.deedOf(1, 3), 99);
    due("a set to the same forgets, too", x.pay(0, 1) && x.set(0, 0, 1000) && x.look(16) == 0, true);
  }

  private static void performs() {
    Counted x = row();
    due("no such deed", x.perform(2), NONE);
    due("no such deed", x.perform(-1), NONE);
    due("nothing to undo", x.look(16), 0);
    // nobody claps below 0; loud alone makes the hands: worth 9 by 3 is 3
    x.text(0, "clap 0;");
    x.text(1, "hands 3 from 0; most 2; end 9999;");
    due("done over twice", x.perform(0), 3);
    due("minute", x.look(2), 30);
    due("coin", x.look(4), -15);
    due("now", x.look(6), 0);
    due("agains", x.look(7), 2);
    due("done", x.deedOf(0, 4), 3);
    due("wear", x.deedOf(0, 3), 6);
    due("as often in a row", x.perform(0), 1);
    due("agains", x.look(7), 3);
    due("another one", x.perform(1), 1);
    due("agains", x.look(7), 0);
    due("the first again", x.perform(0), 3);
    due("one undo each", x.look(16), 4);
    // once whatever end is, but not over behind it
    x.text(1, "hands 3 from 0; most 20; end 1;");
    due("behind the end", x.perform(0), 1);
    x.text(1, "hands 3 from 0; most 20; end 9999;");
    x.perform(1);
    due("21 times", x.perform(0), 21);
    x.text(1, "hands 3 from 0; most 0; end 9999;");
    x.perform(1);
    due("most 0", x.perform(0), 1);
    // a DEED of an hour may begin as long as 21 of them end before 9999
    Counted y = new Counted();
    y.deed(0, 60, 0);
    y.text(2, "at 8738 deed 0;");
    y.evenings(1);
    due("minute, end 300", y.look(2), 8738);
    due("8738 + 21 * 60 = 9998", y.perform(0), 1);
    y.evenings(1);
    y.text(2, "at 8739 deed 0;");
    y.evenings(1);
    due("8739 + 21 * 60 = 9999", y.perform(0), NONE);
    due("and nothing is done", y.look(2), 8739);
    // wears: 99 at most, and asked with the WEAR and the MINUTE of before
    Counted z = new Counted();
    z.deed(0, 60, 0);
    z.deed(0, 60, 0);
    z.text(0, "wears 10 + wear + late * 20 + agains;");
    z.perform(0);
    due("wear", z.deedOf(0, 3), 10);
    z.perform(0);
    due("10 + (10 + 10 + 20 + 1)", z.deedOf(0, 3), 51);
    z.perform(0);
    due("99 at most", z.deedOf(0, 3), 99);
  }

  private static void rounds() {
    promise = 6;
    // 2 claps by himself, 1 beside him behind that, 0 beside 1 a round later; 3 sits alone
    Counted x = people(4, 1);
    x.text(3, "hearer 0 beside 1; hearer 2 beside 1;");
    x.text(0, "clap 1000 when hearer = 2 or beside > 0; clap 0;");
    x.text(1, "most 0;");
    x.perform(0);
    due("hands of 0, 1, 2 and loud", x.book(0, 3), 4);
    due("rounds in thought", x.settles(0, 1), 3);
    due("who claps", x.settles(0, 0), 7);
    x.glove(1, true);
    x.perform(0);
    due("gloves stop it", x.book(2, 3), 2);
    x.glove(1, false);
    x.let(1, false);
    x.perform(0);
    due("who is away does not clap", x.book(5, 3), 2);
    // one who begins is heard in the same round by those behind him
    x.text(0, "clap 1000 when hearer = 0 or beside > 0; clap 0;");
    x.let(1, true);
    due("0, then 1, then 2 in one round", x.settles(0, 1), 1);
    due("who claps", x.settles(0, 0), 7);
    // a chain of twelve, from its end on: one more in each round
    Counted z = people(12, 1);
    String chain = "";
    for (int h = 0; h < 11; h++) chain += "hearer " + h + " beside " + (h + 1) + ";";
    z.text(3, chain);
    z.text(0, "clap 1000 when hearer = 11 or beside > 0; clap 0;");
    z.text(1, "most 0;");
    due("twelve rounds", z.settles(0, 1), 12);
    due("all", z.settles(0, 0), 4095);
    due("near", z.near(0, 12), 4095);
    due("near", z.near(0, 10), 2047);
    due("one group", z.groups(1), 4095);
    z.perform(0);
    due("twelve hands and loud", z.book(0, 3), 13);
    // all HEARERS that are THERE draw, with gloves too, each once, before COUGHS
    Counted y = people(3, 1);
    y.glove(0, true);
    y.let(1, false);
    y.set(0, 0, 1);
    y.perform(0);
    int s = 0;
    for (int i = 0; i < 3; i++) s = s * 1664525 + 1013904223;
    due("two draws and one for coughs", y.look(10), s);
    y.set(0, 0, 0);
    y.state(0);
    y.perform(0);
    due("no coughs, no draw", y.look(10), 1013904223 * 1664525 + 1013904223);
  }

  private static void pays() {
    Counted x = row();
    int[][] bad = {{0, 0}, {0, 100}, {0, -1}, {3, 1}, {-1, 1}, {0, LEAST}, {GREATEST, 1}};
    for (int[] b : bad) due("a wrong pay", x.pay(b[0], b[1]), false);
    due("nothing", x.look(9), 0);
    due("pay", x.pay(1, 99), true);
    due("paid", x.of(1, 5), 99);
    due("pay", x.pay(1, 5), true);
    due("99 at most", x.of(1, 5), 99);
    due("coin", x.look(4), -104);
    due("pay", x.pay(0, 1), true);
    due("paid", x.of(0, 5), 1);
    due("what", x.book(1, 1), 3);
    due("which", x.book(1, 2), 1);
    due("how much", x.book(1, 3), 5);
    due("undo", x.look(16), 3);
  }

  private static void gloves() {
    Counted x = row();
    due("no such", x.glove(3, true), false);
    due("no such", x.glove(-1, true), false);
    due("has none", x.glove(0, false), false);
    due("given", x.glove(0, true), true);
    due("has some", x.glove(0, true), false);
    due("gloves", x.of(0, 4), 1);
    due("line", x.book(0, 1), 4);
    due("line", x.book(0, 3), 1);
    due("taken", x.glove(0, false), true);
    due("line", x.book(1, 3), 0);
    due("lines", x.look(9), 2);
    due("undo", x.look(16), 2);
  }

  private static void lets() {
    Counted x = row();
    due("no such", x.let(3, false), false);
    due("no such", x.let(-1, false), false);
    due("is there", x.let(2, true), false);
    due("sent away", x.let(2, false), true);
    due("is away", x.let(2, false), false);
    due("there", x.of(2, 3), 0);
    due("those there", x.look(8), 3);
    due("line", x.book(0, 1), 5);
    due("line", x.book(0, 2), 2);
    due("line", x.book(0, 3), 0);
    due("in", x.let(2, true), true);
    due("line", x.book(1, 3), 1);
    due("undo", x.look(16), 2);
  }

  private static void evenings() {
    Counted x = row();
    int[] bad = {0, 21, -1, LEAST, GREATEST};
    for (int n : bad) due("a wrong number", x.evenings(n), NONE);
    due("nothing", x.look(3), 0);
    x.text(0, "clap 0;");
    x.text(1, "hands 3 from 0; most 2; end 100;");
    // 0: 30, 40, 50; 1 from 50 on: 70, once for its loud of 1; 0 again from 70 on: 80, 90, 100: no more
    x.text(2, "at 20 deed 0; at 10 deed 1; at 60 deed 0; at 100 deed 1;");
    due("an evening", x.evenings(1), 7);
    due("minute stays", x.look(2), 100);
    due("now stays", x.look(6), 0);
    due("agains stay", x.look(7), 2);
    due("evening", x.look(3), 1);
    due("coin", x.look(4), -31);
    due("four more", x.evenings(4), 28);
    due("evening", x.look(3), 5);
    due("six can be undone", x.evenings(2) == 14 && x.look(16) == 6, true);
    // the same DEED in two lines goes on in a row
    x.text(2, "at 0 deed 0; at 50 deed 0;");
    due("thrice, then once", x.evenings(1), 4);
    due("agains", x.look(7), 3);
    Counted y = new Counted();
    for (int i = 0; i < 499; i++) y.evenings(20);
    due("evening", y.look(3), 9980);
    due("too many", y.evenings(20), NONE);
    due("nothing", y.look(3), 9980);
    due("just enough", y.evenings(19), 0);
    due("evening", y.look(3), 9999);
    due("one too many", y.evenings(1), NONE);
  }

  private static void tape() {
    promise = 11;
    Counted x = row();
    x.pay(0, 1);
    for (int i = 1; i <= 20; i++) due("feed", x.feed(538976288, 538976288, 538976288, 538976288, 538976288), 20 * i);
    due("too many", x.feed(0, 0, 0, 0, 0), NONE);
    due("nothing came", x.end(401), false);
    due("all", x.end(400), true);
    due("less", x.end(381), true);
    due("too many by one", x.feed(0, 0, 0, 0, 0), NONE);
    x.end(380);
    due("just enough", x.feed(0, 0, 0, 0, 0), 400);
    promise = 12;
    due("more than there are", x.end(401), false);
    due("below 0", x.end(-1), false);
    due("below 0", x.end(LEAST), false);
    due("to 3", x.end(3), true);
    due("to 3 again", x.end(3), true);
    due("to 4", x.end(4), false);
    due("feed", x.feed(0, 0, 0, 0, 0), 23);
    due("neither feed nor end forgets", x.look(16), 1);
    // the highest byte of each number first: "hands 12 from 0;" and more that is cut off
    x.end(0);
    x.feed(0x68616e64, 0x73203132, 0x2066726f, 0x6d20303b, 0xffffffff);
    x.end(16);
    promise = 13;
    due("one line", x.text(1), 1);
    due("hands", x.statute(0), 12);
    due("the tape is empty", x.end(1), false);
  }

  private static void texts() {
    Counted x = row();
    reads(0, "", 0);
    reads(0, " \n ", 0);
    reads(0, "clap likes*100+beside*200;loud worth/3;wears 50;", 3);
    reads(0, "loud hearer+hands-likes*manners/9+paid-worth+wear*agains-beside*late when 1<2;", 1);
    reads(0, "clap1when1=1and2>1or not(1<2);", 1);
    reads(0, "clap\n1\nwhen\n(((((((1=1)))))));", 1);
    for (int k = -1; k <= 4; k += 5) {
      x.feed(1, 1, 1, 1, 1);
      due("no such text", x.text(k), NONE);
      due("its fault", x.fault(0), 0);
      due("its place", x.fault(1), NONE);
      due("the tape is empty", x.end(1), false);
    }
    promise = 14;
    fails(0, "loud", 1, 4);
    fails(0, "loud  ", 1, 6);
    fails(0, "loud 1", 1, 6);
    fails(0, ";", 1, 0);
    fails(0, "Loud 1;", 1, 0);
    fails(0, "loudy 1;", 1, 0);
    fails(0, "loud 1 2;", 1, 7);
    fails(0, "loud 12345;", 1, 5);
    fails(0, "loud -1;", 1, 5);
    fails(0, "loud (1);", 1, 5);
    fails(0, "loud 1+;", 1, 7);
    fails(0, "loud 1*+2;", 1, 7);
    fails(0, "loud 1/hands;", 1, 7);
    fails(0, "loud 1/0;", 2, 7);
    fails(0, "loud 1/0000;", 2, 7);
    fails(0, "loud 1/00000;", 1, 7);
    fails(0, "loud 1/", 1, 7);
    fails(0, "loud 1 < 2;", 1, 7);
    fails(0, "loud 1 and 2;", 1, 7);
    fails(0, "loud 1);", 1, 6);
    fails(0, "loud 1 when;", 1, 11);
    fails(0, "loud 1 when 1;", 1, 13);
    fails(0, "loud 1 when 1 and 2=2;", 1, 14);
    fails(0, "loud 1 when 1=1 when 2=2;", 1, 16);
    fails(0, "loud 1 when 1=1=1;", 1, 15);
    fails(0, "loud 1 when (1=1;", 1, 16);
    fails(0, "loud 1 when (1)=1;", 1, 14);
    fails(0, "loud 1 when 1=(1);", 1, 14);
    fails(0, "loud 1 when (1=1)=1;", 1, 17);
    fails(0, "loud 1 when (1=1)+1;", 1, 17);
    fails(0, "loud 1 when 1=1);", 1, 15);
    fails(0, "loud 1 when 1=1) and (1=1;", 1, 15);
    fails(0, "loud 1 when not;", 1, 15);
    fails(0, "loud 1 when 1=1 not 1=1;", 1, 16);
    fails(0, "loud 1 when 1=1 and;", 1, 19);
    fails(0, "loud 1 when 1 = 2 / 0;", 2, 20);
    fails(0, "loud from;", 1, 5);
    fails(0, "loud 1\t;", 1, 6);
    fails(0, "loud 1;\u00ff", 1, 7);
    fails(0, "loud 1.;", 1, 6);
    fails(0, "loud 1; most 2;", 1, 8);
    fails(0, "loud 1/0; loud", 2, 7);
    fails(0, "loud 1 when not not not not not not not not not 1=1;", 3, 44);
    reads(0, "loud 1 when not not not not not not not not 1=1;", 1);
    fails(0, "loud 1 when (((((((((1=1)))))))));", 3, 20);
    reads(0, "loud 1 when ((((((((1=1))))))));", 1);
    fails(0, "loud 1 when not(not(not(not((1=1)))));", 3, 28);
    // what has ended is not open any more
    reads(0, "loud 1 when not(not(not(not(1=1)))) and not(not(not(not(1=1)))) or ((((((((1=1))))))));", 1);
    reads(0, "loud 1 when (not 1=1 or not 1=1 and not 1=1 or not 1=1 or not 1=1 or not 1=1 or not 1=1 or not 1=1);", 1);
    statuteTexts();
    plainTexts();
    longTexts();
  }

  private static String times(int n, String s) {
    StringBuilder many = new StringBuilder();
    for (int i = 0; i < n; i++) many.append(s);
    return many.toString();
  }

  private static void statuteTexts() {
    reads(1, "hands 1 from 0; hands 99 from 9999; most 0; most 20; double 2; end 1; end 9999;", 7);
    fails(1, "hands", 1, 5);
    fails(1, "hands 0 from 0;", 2, 6);
    fails(1, "hands 100 from 0;", 2, 6);
    fails(1, "hands 1;", 1, 7);
    fails(1, "hands 1 from;", 1, 12);
    fails(1, "hands 1 from 10000;", 1, 13);
    fails(1, "hands 1 from 1", 1, 14);
    fails(1, "most 21;", 2, 5);
    fails(1, "double 3;", 2, 7);
    fails(1, "end 0;", 2, 4);
    fails(1, "end 1 1;", 1, 6);
    fails(1, "from 1;", 1, 0);
    fails(1, "most 1;;", 1, 7);
    reads(1, times(16, "most 1;"), 16);
    fails(1, times(17, "most 1;"), 3, 112);
    fails(1, times(16, "most 1;") + "from", 1, 112);
    fails(1, times(16, "most 1;") + "end", 3, 112);
    fails(0, times(17, "loud 1;"), 3, 112);
    reads(0, times(16, "loud 1;"), 16);
    fails(0, times(15, "loud 1;") + "loud" + times(290, " ") + "1", 1, 400);
    tellsLoud("the longest product", "loud1" + times(197, "*1") + ";", 1, 1);
    tellsLoud("the longest row of conditions", "loud 7 when 1=1" + times(48, " and 1=1") + ";", 1, 7);
    tellsLoud("the deepest condition", "loud 8 when 1=2 or not(not(not(not(1=2 or 3=3 and 7=1+2*3)and 1=1)or 1=2)and 1=1);", 1, 8);
    due("a text of 400 bytes", row().text(0, times(15, "loud 1;") + "loud" + times(289, " ") + "1;"), 16);
  }

  /** A text filled up with blanks to all the bytes that there can be. */
  private static String full(String text) {
    return text + times(400 - text.length(), " ");
  }

  /** Lines as long as the TAPE lets them be: nothing but its 400 bytes bounds them. */
  private static void longTexts() {
    tellsLoud("a row of or", full("loud1when1=1" + times(66, "or1=1") + ";"), 1, 1);
    tellsLoud("the longest row of or", full("loud1when1=1" + times(77, "or1=1") + ";"), 1, 1);
    tellsLoud("the last of the longest row of or", full("loud4when1=2" + times(76, "or1=2") + "or1=1;"), 1, 4);
    tellsLoud("the longest row of and", full("loud1when1=1" + times(64, "and1=1") + ";"), 1, 1);
    tellsLoud("the last of the longest row of and", full("loud1when1=1" + times(63, "and1=1") + "and1=2;"), 1, 3);
    tellsLoud("the longest row of not", full("loud9when1=2" + times(41, "or not1=1") + "or not1=2;"), 1, 9);
    tellsLoud("the longest row of (", full("loud9when1=2" + times(54, "or(1=2)") + "or(1=1);"), 1, 9);
    tellsLoud("or and and by turns", full("loud9when1=1" + times(35, "or1=2and1=1") + ";"), 1, 9);
    tellsLoud("197, held to 99", full("loud1" + times(196, "+1") + ";"), 1, 99);
    tellsLoud("94 are 94", full("loud9when1" + times(93, "+1") + "=1" + times(93, "+1") + ";"), 1, 9);
    tellsLoud("9999 by 1, held to 99", "loud9999" + times(195, "/1") + ";", 1, 99);
    tellsLoud("none of 16 lines", times(16, "loud1when1=2" + "or1=2" + "or1=2;"), 16, 3);
    // in each of eight brackets an or and an and wait for it
    String deep = times(8, "1=2or1=1and(") + "1=2or1=1and3=1+1*2" + times(8, ")");
    tellsLoud("all that may wait at once", full("loud6when" + deep + ";loud5;"), 2, 6);
    tellsLoud("twice", full("loud6when" + deep + "and" + deep + ";loud5;"), 2, 6);
    // the first FAULT of a long line is where it stands
    fails(0, "loud1when1=1" + times(66, "or1=1") + "or;", 1, 344);
    fails(0, "loud1when1=1" + times(77, "or1=1"), 1, 397);
    fails(0, full("loud1when1=1" + times(77, "or1=1")), 1, 400);
    fails(0, "loud1when1=1" + times(75, "or1=1") + "or1/0=1;", 2, 391);
    fails(0, "loud1when1=1" + times(74, "or1=1") + "or" + times(3, " not") + ";", 1, 396);
    fails(0, "loud1when1=1" + times(74, "or1=1") + "ornot1=1;", 1, 382);
    fails(0, "loud1when1=1" + times(73, "or1=1") + "or" + times(9, "(") + "1;", 3, 387);
    reads(1, full(times(16, "hands 99 from 9999;")), 16);
    reads(2, full(times(16, "at9999deed\n1;")), 16);
    reads(3, full(times(16, "hearer0beside 1;")), 16);
    fails(3, full(times(16, "hearer0beside 1;") + "hearer"), 3, 256);
    reads(0, full(""), 0);
    fails(0, times(400, ";"), 1, 0);
    fails(0, times(400, "1"), 1, 0);
    fails(0, times(400, "l"), 1, 0);
    fails(0, "loud" + times(396, "1"), 1, 4);
    reads(0, "", 0);
  }

  private static void plainTexts() {
    reads(2, "at 0 deed 0; at 9999 deed 1;", 2);
    fails(2, "at", 1, 2);
    fails(2, "at 1 deed 2;", 2, 10);
    fails(2, "at 10000 deed 0;", 1, 3);
    fails(2, "at 1;", 1, 4);
    fails(2, "at 1 0;", 1, 5);
    fails(2, "deed 0;", 1, 0);
    fails(2, "at deed 0;", 1, 3);
    reads(2, times(16, "at 1 deed 0;"), 16);
    fails(2, times(17, "at 1 deed 0;"), 3, 192);
    reads(3, "hearer 0 beside 1; hearer 1 beside 0; hearer 0 beside 1;", 3);
    fails(3, "hearer 0 beside 0;", 2, 16);
    fails(3, "hearer 3 beside 0;", 2, 7);
    fails(3, "hearer 0 beside 3;", 2, 16);
    fails(3, "hearer 0 hearer 1;", 1, 9);
    fails(3, "beside 0;", 1, 0);
    reads(3, times(16, "hearer 0 beside 1;"), 16);
    fails(3, times(17, "hearer 0 beside 1;"), 3, 288);
    Counted none = new Counted();
    fails(none, 3, "hearer 0 beside 1;", 2, 7);
    fails(none, 2, "at 0 deed 0;", 2, 10);
    fails(none, 1, "double 0;", 2, 7);
    Counted x = row();
    due("another what", x.fault(2), NONE);
    due("another what", x.fault(-1), NONE);
    // THE LAW and what failed forget nothing, the other texts do
    promise = 13;
    for (int k = 0; k < 4; k++) {
      x.pay(0, 1);
      int before = x.look(16);
      x.text(k, "at");
      due("a fault forgets nothing", x.look(16), before);
      x.text(k, "");
      due("what can be undone", x.look(16), k == 0 ? before : 0);
    }
  }

  private static void ofs() {
    Counted x = row();
    x.text(1, "double 1; double 1;");
    x.text(0, "clap hearer*100+hands*10+likes-manners+paid*2 when worth>5; clap beside+wear+agains+late;");
    int[] dues = {3, 4, 2, 1, 0, 0, 5, 2, NONE, NONE, 132, 0, NONE};
    for (int what = 0; what < dues.length; what++) due("of 1, " + what, x.of(1, what), dues[what]);
    x.pay(1, 7);
    due("clap with paid", x.of(1, 10), 146);
    due("no double", x.of(0, 7), 1);
    due("beside", x.of(0, 6), 2);
    due("another what", x.of(0, -1), NONE);
    due("another what", x.of(0, LEAST), NONE);
    due("another what", x.of(0, GREATEST), NONE);
    due("no such", x.of(3, 0), NONE);
    due("no such", x.of(-1, 0), NONE);
    x.text(0, "clap 2000 when hearer=0; clap 0-1;");
    due("1000 at most", x.of(0, 10), 1000);
    due("0 at least", x.of(1, 10), 0);
    x.text(0, "loud 1;");
    due("without a line", x.of(0, 10), 900);
    x.text(0, "clap 1 when 1=2;");
    due("no line is so", x.of(0, 10), 900);
    x.text(0, "clap 7 - 3 - 1 + 2 * 3 * 2 / 5 / 2;");
    due("from the left", x.of(0, 10), 4);
    x.text(0, "clap 100 + (0);");
    x.text(0, "clap 100 + 0*9 - 7 / 2 + likes;");
    due("quotients", x.of(0, 10), 106);
    x.text(0, "clap (1);");
    x.text(0, "clap 10 when not 1=1 and 1=1 or 2<1; clap 20 when not (1=1 and 1=2) and 3>2; clap 30;");
    due("not binds more than and, and more than or", x.of(0, 10), 20);
    x.text(0, "clap 10 when 1=1 or 1=1 and 1=2; clap 20;");
    due("or last", x.of(0, 10), 10);
    x.text(0, "clap 500 + (1-1);");
    // 9999 * 9999 * 22 = 2199560022, wrapped -2095407274
    x.text(0, "clap 9999*9999*22;");
    due("wrapped and held", x.of(0, 10), 0);
    x.text(0, "clap 9999*9999*43 / 9999;");
    // 9999 * 9999 * 43 = 4299140043, wrapped 4172747; by 9999: 417
    due("wrapped", x.of(0, 10), 417);
    x.text(0, "clap 503 + 9999*9999*22 / 9999 / 9999;");
    // -2095407274 by 9999: -209561; by 9999: -20, towards 0
    due("towards 0", x.of(0, 10), 483);
  }

  private static void deedOfs() {
    Counted x = row();
    int[] dues = {9, 10, 5, 0, 0, 3, 2, NONE, NONE};
    for (int what = 0; what < dues.length; what++) due("deedOf 0, " + what, x.deedOf(0, what), dues[what]);
    due("another what", x.deedOf(0, -1), NONE);
    due("another what", x.deedOf(0, LEAST), NONE);
    due("no such", x.deedOf(2, 0), NONE);
    due("no such", x.deedOf(-1, 5), NONE);
    x.set(5, 0, 40);
    x.text(0, "loud worth*10+wear+agains*100+late+hearer+hands+likes+manners+paid+beside; wears 0-1;");
    due("held to 99", x.deedOf(0, 5), 99);
    due("held to 0", x.deedOf(0, 6), 0);
    x.text(0, "loud worth+wear+hearer+hands+likes+manners+paid+beside; wears 100;");
    due("loud", x.deedOf(0, 5), 49);
    due("held to 99", x.deedOf(0, 6), 99);
    x.text(0, "loud late; wears agains;");
    x.text(1, "most 0;");
    for (int i = 0; i < 3; i++) x.perform(1);
    due("late", x.deedOf(0, 5), 1);
    due("agains", x.deedOf(0, 6), 2);
    x.text(0, "loud worth/2 when worth>4;");
    due("loud", x.deedOf(0, 5), 4);
    due("no line is so: worth by 3", x.deedOf(1, 5), 1);
  }

  private static void statutes() {
    Counted x = row();
    due("another what", x.statute(3), NONE);
    due("another what", x.statute(-1), NONE);
    x.text(1, "hands 7 from 2; hands 8 from 1; hands 9 from 2; hands 3 from 4; most 3; most 4; end 8; end 7;");
    due("no line yet", x.statute(0), 5);
    due("the last of most", x.statute(1), 4);
    due("the last of end", x.statute(2), 7);
    x.evenings(1);
    due("from 1", x.statute(0), 8);
    x.evenings(1);
    due("the last from 2", x.statute(0), 9);
    x.evenings(1);
    due("still", x.statute(0), 9);
    x.evenings(1);
    due("from 4", x.statute(0), 3);
    x.text(1, "");
    due("without any", x.statute(0) * 10000 + x.statute(1) * 1000 + x.statute(2), 59300);
  }

  private static void books() {
    Counted x = row();
    x.text(0, "clap 0; loud 9;");
    x.text(1, "most 1;");
    x.evenings(2);
    x.perform(0);
    int[][] dues = {{2, 0, 0, 9}, {2, 1, 0, 9}};
    for (int i = 0; i < 2; i++) for (int what = 0; what < 4; what++) due("line " + i, x.book(i, what), dues[i][what]);
    due("no such line", x.book(2, 0), NONE);
    due("no such line", x.book(-1, 0), NONE);
    due("another what", x.book(0, 4), NONE);
    due("another what", x.book(0, -1), NONE);
    x.set(0, 0, 1000);
    x.perform(1);
    due("coughed", x.book(2, 1), 2);
    due("the deed", x.book(2, 2), 1);
    due("how much", x.book(2, 3), 0);
    due("then done", x.book(3, 1), 0);
    due("no hands", x.book(3, 3), 0);
    due("no again when coughed", x.look(9), 4);
    for (int i = 0; i < 146; i++) x.pay(0, 1);
    due("150 lines", x.look(9), 150);
    due("and yet", x.pay(2, 3), true);
    due("no more", x.look(9), 150);
    due("paid", x.of(2, 5), 3);
    due("undo", x.undo() && x.look(9) == 150, true);
    due("undo", x.undo() && x.look(9) == 149, true);
    due("the line is gone", x.book(149, 0), NONE);
  }

  private static void goes() {
    Counted x = row();
    x.text(0, "clap 0;");
    x.text(1, "hands 3 from 0; most 2; end 100;");
    x.text(2, "at 20 deed 0; at 10 deed 1; at 60 deed 0; at 120 deed 1;");
    x.set(0, 0, 1000);
    x.perform(0);
    due("minute", x.goes(0), 120);
    due("coin", x.goes(1), -5 - 31);
    due("deed 0", x.goes(10), 6);
    due("deed 1", x.goes(11), 1);
    due("no such deed", x.goes(12), FAR);
    due("another what", x.goes(2), FAR);
    due("another what", x.goes(9), FAR);
    due("another what", x.goes(-1), FAR);
    due("another what", x.goes(LEAST), FAR);
    due("another what", x.goes(GREATEST), FAR);
    due("nothing stays", x.look(2) == 10 && x.look(3) == 0 && x.look(4) == -5 && x.look(9) == 2 && x.look(6) == 0
        && x.deedOf(0, 4) == 1 && x.deedOf(0, 3) == 2 && x.look(16) == 1, true);
    int state = x.look(10);
    x.goes(0);
    due("no draws", x.look(10), state);
    // each one's own is 500: a clap of 500 is none, of 501 one
    Counted y = people(9, 1);
    y.text(2, "at 0 deed 0;");
    y.text(1, "most 1;");
    y.text(0, "clap 500;");
    due("500", y.goes(10), 1);
    y.text(0, "clap 501;");
    due("501", y.goes(10), 2);
  }

  private static void settles() {
    Counted x = row();
    due("who", x.settles(0, 0), 5);
    due("rounds", x.settles(0, 1), 1);
    due("hands", x.settles(0, 2), 6);
    due("another what", x.settles(0, 3), NONE);
    due("another what", x.settles(0, -1), NONE);
    due("no such", x.settles(2, 0), NONE);
    due("no such", x.settles(-1, 0), NONE);
    x.text(0, "clap 600 when agains=2 and late=0 and wear=6; clap 0; loud agains;");
    due("nobody", x.settles(0, 0), 0);
    due("no rounds", x.settles(0, 1), 0);
    due("no hands", x.settles(0, 2), 0);
    x.perform(0);
    x.perform(0);
    due("agains as then", x.settles(0, 0), 7);
    due("loud asked behind", x.settles(0, 2), 8);
    due("of another deed", x.settles(1, 2), 0);
    due("nothing stays", x.look(7) == 1 && x.look(2) == 20 && x.deedOf(0, 4) == 2, true);
    x.glove(0, true);
    x.let(1, false);
    due("only 2", x.settles(0, 0), 4);
    x.text(1, "double 2;");
    due("counted twice", x.settles(0, 2), 4);
  }

  private static void makes() {
    Counted x = row();
    // hands 2 and 1 of 0 and 2 and loud 3 make 6: over 5, by 9 agains at most, till 300
    due("once", x.makes(0, 1, 0), 1);
    due("by sending 0", x.makes(0, 1, 1), 1);
    x.text(1, "most 1;");
    due("twice as it is", x.makes(0, 2, 0), 0);
    due("nobody sent", x.makes(0, 2, 1), 0);
    due("never thrice", x.makes(0, 3, 0), NONE);
    due("never thrice", x.makes(0, 3, 1), NONE);
    int[][] bad = {{0, 0, 0}, {0, 6, 0}, {0, 1, 2}, {0, 1, -1}, {2, 1, 0}, {-1, 1, 0}, {0, LEAST, 0}};
    for (int[] b : bad) due("a wrong one", x.makes(b[0], b[1], b[2]), NONE);
    // clap falls with agains: 0 goes on for two agains, 2 for one more
    x.text(0, "clap 600 when hearer=0 and agains<2 or hearer=2 and agains<3; clap 0; loud 4;");
    x.text(1, "most 9;");
    due("four times", x.makes(0, 4, 0), 0);
    due("three times by 2 away", x.makes(0, 3, 1), 4);
    due("once by 0 and 2 away", x.makes(0, 1, 1), 5);
    due("twice by none", x.makes(0, 2, 0), NONE);
    due("five times by none", x.makes(0, 5, 0), NONE);
    // of several the least
    x.text(0, "clap 600; loud 0;");
    x.text(1, "hands 4 from 0; most 1;");
    due("once", x.makes(1, 1, 1), 2);
    x.text(1, "hands 6 from 0; most 1;");
    due("once", x.makes(1, 1, 1), 1);
    x.let(0, false);
    due("only those there", x.makes(1, 1, 1), 0);
    due("nothing stays", x.look(8) == 6 && x.deedOf(1, 4) == 0, true);
  }

  private static void fills() {
    Counted x = new Counted();
    due("without deeds", x.fills(1, 0), 0);
    due("without deeds", x.fills(1, 1), 0);
    x.deed(5, 20, 0);
    x.deed(3, 10, 0);
    x.deed(2, 10, 0);
    x.deed(0, 1, 0);
    due("least of two sets", x.fills(20, 1), 1);
    due("worth", x.fills(20, 0), 5);
    due("ten", x.fills(10, 1), 2);
    due("nine", x.fills(9, 1), 0);
    due("twenty nine", x.fills(29, 1), 1);
    due("thirty", x.fills(30, 1), 3);
    due("all", x.fills(999, 1), 7);
    due("all", x.fills(999, 0), 10);
    due("a wrong m", x.fills(0, 0), NONE);
    due("a wrong m", x.fills(1000, 0), NONE);
    due("another what", x.fills(10, 2), NONE);
    due("another what", x.fills(10, -1), NONE);
  }

  private static void lines() {
    Counted x = new Counted();
    due("without", x.lines(0, 0), 0);
    due("without", x.lines(0, 1), NONE);
    due("other bits", x.lines(1, 0), NONE);
    x.deed(3, 20, 0);
    x.deed(9, 10, 0);
    x.deed(9, 10, 0);
    x.deed(0, 5, 0);
    due("3, 0", x.lines(9, 0), 60);
    due("the first", x.lines(9, 1), 0);
    due("90 + 90 and 180", x.lines(6, 0), 270);
    due("the lesser", x.lines(6, 1), 1);
    due("all", x.lines(15, 0), 390);
    due("first", x.lines(15, 1), 1);
    due("no worth", x.lines(8, 0), 0);
    due("first", x.lines(8, 1), 3);
    due("other bits", x.lines(16, 0), NONE);
    due("other bits", x.lines(-1, 1), NONE);
    due("other bits", x.lines(LEAST, 0), NONE);
    due("another what", x.lines(1, 2), NONE);
    due("another what", x.lines(1, -1), NONE);
  }

  private static void claques() {
    promise = 24;
    Counted x = row();
    x.pay(0, 1);
    int[][] bad = {{8, 1}, {-2, 1}, {1, 13}, {1, -1}, {LEAST, 0}, {GREATEST, 0}};
    for (int[] b : bad) due("a wrong claque", x.claque(b[0], b[1]), NONE);
    due("an empty set", x.claque(0, 0), 1);
    for (int i = 2; i <= 8; i++) due("claque", x.claque(7, 2), i);
    due("the ninth", x.claque(7, 2), NONE);
    due("told", x.look(15), 8);
    promise = 25;
    due("fits", x.fits(0), 3);
    due("least", x.fits(1), 3);
    due("greatest", x.fits(2), 6);
    due("ask", x.fits(3), 0);
    promise = 24;
    due("nothing", x.claque(NONE, 0), 0);
    due("told", x.look(15), 0);
    due("it forgets nothing", x.look(16), 1);
    promise = 25;
    due("all sets", x.fits(0), 8);
    due("ask", x.fits(3), 0);
    x.claque(1, 1);
    x.claque(6, 1);
    due("fits", x.fits(0), 2);
    due("least", x.fits(1), 3);
    due("ask one who is not known", x.fits(3), 1);
    x.claque(2, 0);
    due("fits", x.fits(0), 1);
    due("which", x.fits(2), 5);
    due("nobody to ask", x.fits(3), NONE);
    x.claque(4, 0);
    due("fits none", x.fits(0), 0);
    due("least of none", x.fits(1), NONE);
    due("greatest of none", x.fits(2), NONE);
    due("ask", x.fits(3), NONE);
    due("another what", x.fits(4), NONE);
    due("another what", x.fits(-1), NONE);
    due("more than are asked", x.claque(NONE, 0) + x.claque(1, 12), 1);
    due("fits none", x.fits(0), 0);
  }

  private static void seats() {
    promise = 26;
    // two ways from 0 to 3: by 1, or by 2; and 4 alone
    Counted x = people(5, 1);
    x.text(3, "hearer 0 beside 1; hearer 1 beside 3; hearer 0 beside 2; hearer 3 beside 2;");
    due("both", x.cuts(0, 3, 0), 2);
    due("both", x.cuts(3, 0, 1), 6);
    due("not joined", x.cuts(0, 4, 0), 0);
    due("not joined", x.cuts(0, 4, 1), 0);
    x.glove(1, true);
    due("one stops it already", x.cuts(0, 3, 0), 1);
    due("the other", x.cuts(0, 3, 1), 4);
    x.let(2, false);
    due("there or not", x.cuts(0, 3, 1), 4);
    x.glove(0, true);
    x.glove(3, true);
    due("their own gloves do not", x.cuts(0, 3, 1), 4);
    due("1 and 2 by 0 alone", x.cuts(1, 2, 0), 0);
    int[][] bad = {{0, 1, 0}, {1, 0, 1}, {0, 0, 0}, {5, 0, 0}, {0, 5, 0}, {-1, 0, 0}, {0, -1, 0}, {0, 3, 2}, {0, 3, -1}};
    for (int[] b : bad) due("a wrong one", x.cuts(b[0], b[1], b[2]), NONE);
    x.text(3, "hearer 0 beside 1; hearer 1 beside 2; hearer 2 beside 3; hearer 3 beside 4;");
    x.glove(0, false);
    x.glove(1, false);
    x.glove(3, false);
    due("of several the least", x.cuts(0, 4, 1), 2);
    promise = 27;
    int[] dues = {4, 14, 31, 31};
    for (int n = 0; n < 4; n++) due("near", x.near(2, n), dues[n]);
    due("near", x.near(0, 3), 15);
    due("near", x.near(0, 12), 31);
    due("a wrong n", x.near(0, 13), NONE);
    due("a wrong n", x.near(0, -1), NONE);
    due("no such", x.near(5, 1), NONE);
    due("no such", x.near(-1, 1), NONE);
    promise = 35;
    due("one group", x.groups(0), 1);
    due("all", x.groups(1), 31);
    x.text(3, "hearer 4 beside 2; hearer 1 beside 0;");
    due("three", x.groups(0), 3);
    due("that with the least", x.groups(1), 3);
    x.text(3, "hearer 4 beside 2; hearer 3 beside 2;");
    due("the greatest", x.groups(1), 28);
    due("another what", x.groups(2), NONE);
    due("another what", x.groups(-1), NONE);
    due("without hearers", new Counted().groups(0), 0);
    due("without hearers", new Counted().groups(1), 0);
  }

  private static void meanings() {
    promise = 28;
    Counted x = new Counted();
    x.evenings(1);
    int[][] bad = {{-1, 0}, {10, 0}, {0, -1}, {0, 10}};
    for (int[] b : bad) due("a wrong one", x.means(b[0], b[1]), false);
    due("means", x.means(0, 1), true);
    due("means", x.means(1, 2), true);
    due("means", x.means(2, 3), true);
    due("means", x.means(3, 1), true);
    due("it forgets nothing", x.look(16), 1);
    promise = 29;
    due("never", x.passed(0, 0, 0), 0);
    due("once", x.passed(0, 1, 0), 1);
    due("four times", x.passed(0, 4, 0), 1);
    due("9999 times", x.passed(0, 9999, 0), 3);
    due("behind", x.passed(0, 0, 1), 4);
    due("between", x.passed(0, 0, 2), 3);
    due("n not asked", x.passed(0, -7, 1), 4);
    due("n not asked", x.passed(0, GREATEST, 2), 3);
    due("in the round", x.passed(2, 0, 1), 3);
    due("by itself", x.passed(9, 0, 2), 1);
    due("a wrong n", x.passed(0, -1, 0), NONE);
    due("a wrong n", x.passed(0, 10000, 0), NONE);
    due("a wrong v", x.passed(10, 0, 0), NONE);
    due("a wrong v", x.passed(-1, 0, 1), NONE);
    due("another what", x.passed(0, 0, 3), NONE);
    due("another what", x.passed(0, 0, -1), NONE);
    for (int v = 0; v < 10; v++) x.means(v, (v + 1) % 10);
    due("all ten", x.passed(4, 0, 1), 10);
    due("all ten", x.passed(4, 0, 2), 10);
  }

  private static void shares() {
    Counted x = row();
    // 10, 5 and 7 parts of 22
    int[] dues = {5, 2, 3};
    for (int h = 0; h < 3; h++) due("share of 10", x.share(10, h), dues[h]);
    for (int h = 0; h < 3; h++) due("share of 0", x.share(0, h), 0);
    due("share of 9999", x.share(9999, 0) + x.share(9999, 1) + x.share(9999, 2), 9999);
    x.let(2, false);
    due("not there", x.share(10, 2), 0);
    due("of 15", x.share(10, 0), 7);
    due("of 15", x.share(10, 1), 3);
    // of equal rests the least one
    Counted y = people(3, 0);
    due("equal", y.share(4, 0), 2);
    due("equal", y.share(4, 1), 1);
    due("equal", y.share(5, 1), 2);
    due("equal", y.share(5, 2), 1);
    due("a wrong n", y.share(-1, 0), NONE);
    due("a wrong n", y.share(10000, 0), NONE);
    due("no such", y.share(1, 3), NONE);
    due("no such", y.share(1, -1), NONE);
    for (int h = 0; h < 3; h++) y.let(h, false);
    due("nobody", y.share(1, 0), NONE);
    due("nobody", new Counted().share(1, 0), NONE);
  }

  private static void brides() {
    Counted x = people(12, 0);
    due("no paid ones", x.brides(), 1);
    for (int h = 0; h < 5; h++) x.pay(h, 1);
    due("7 * 6 * 5 * 4 * 3", x.brides(), 2520);
    x.pay(5, 1);
    due("6!", x.brides(), 720);
    x.let(0, false);
    due("6 * 5 * 4 * 3 * 2", x.brides(), 720);
    x.let(6, false);
    due("5!", x.brides(), 120);
    due("nobody", new Counted().brides(), 1);
  }

  private static void games() {
    Counted x = new Counted();
    due("no deeds", x.game(0), NONE);
    x.deed(0, 7, 0);
    due("seven is lost", x.game(0), NONE);
    due("seven is lost", x.game(1), NONE);
    x.deed(0, 10, 0);
    // Grundy's numbers 0 and 1: the first can become 3, which has 1, too
    due("the first", x.game(0), 0);
    due("how many", x.game(1), 4);
    x.set(4, 0, 5);
    x.deed(0, 20, 0);
    // 0, 1 and 2: 7 can't become one with 3, but 10 one with 2: 6
    due("the second", x.game(0), 1);
    due("how many", x.game(1), 4);
    Counted z = new Counted();
    z.deed(0, 2, 0);
    z.deed(0, 2, 0);
    z.deed(0, 10, 0);
    due("of several the least", z.game(0), 0);
    due("two becomes one", z.game(1), 1);
    due("another what", x.game(2), NONE);
    due("another what", x.game(-1), NONE);
    int[] takes = {1, NONE, 1, 4, 3, 4, NONE, 1, NONE, 1, 4, 3, 4, NONE};
    for (int n = 1; n <= takes.length; n++) {
      Counted y = new Counted();
      y.deed(0, n, 0);
      due("of " + n, y.game(1), takes[n - 1]);
    }
  }

  private static void brakes() {
    Counted x = row();
    due("one", x.brakes(0, 0), 1);
    due("the first", x.brakes(0, 1), 1);
    due("once as it is", x.brakes(1, 0), 0);
    due("no such", x.brakes(2, 0), NONE);
    due("no such", x.brakes(-1, 0), NONE);
    due("another what", x.brakes(0, 2), NONE);
    due("another what", x.brakes(0, -1), NONE);
    x.text(0, "clap 600; loud 0;");
    x.text(1, "hands 1 from 0;");
    due("all three", x.brakes(0, 1), 7);
    x.glove(1, true);
    due("those without", x.brakes(0, 1), 5);
    x.let(0, false);
    due("those there", x.brakes(0, 1), 4);
    due("nothing stays", x.of(2, 4), 0);
    x.text(0, "loud 1;");
    due("by none", x.brakes(0, 0), NONE);
    due("by none", x.brakes(0, 1), NONE);
  }

  private static void eagers() {
    Counted x = row();
    due("who", x.eager(0, 0), 0);
    due("how much", x.eager(0, 1), 900);
    x.glove(0, true);
    due("who", x.eager(0, 0), 2);
    x.let(2, false);
    due("who", x.eager(0, 0), 1);
    due("how much", x.eager(0, 1), 400);
    x.glove(1, true);
    due("nobody", x.eager(0, 0), NONE);
    due("nobody", x.eager(0, 1), NONE);
    x.glove(0, false);
    x.glove(1, false);
    x.text(0, "clap 7-beside;");
    due("of several the least", x.eager(1, 0), 0);
    due("how much", x.eager(1, 1), 7);
    x.text(0, "clap 0;");
    due("none claps", x.eager(1, 0), 0);
    due("no such", x.eager(2, 0), NONE);
    due("no such", x.eager(-1, 0), NONE);
    due("another what", x.eager(0, 2), NONE);
    due("another what", x.eager(0, -1), NONE);
  }

  private static void prices() {
    Counted x = row();
    due("none does", x.price(1, 0), NONE);
    due("is above", x.price(0, 0), 0);
    x.text(0, "clap 401+paid;");
    due("all of 99 and one", x.price(0, 0), NONE);
    x.text(0, "clap 402+paid;");
    due("all of 99", x.price(0, 0), 99);
    x.pay(0, 90);
    due("9 more", x.price(0, 0), 9);
    x.let(0, false);
    x.glove(0, true);
    due("there or not, with gloves or not", x.price(0, 0), 9);
    x.text(0, "clap 401+paid;");
    due("99 is not enough", x.price(0, 0), NONE);
    due("paid stays", x.of(0, 5), 90);
    x.text(0, "clap paid * 999 when paid = 3;");
    due("just three", x.price(1, 0), 3);
    due("no such", x.price(3, 0), NONE);
    due("no such", x.price(-1, 0), NONE);
    due("no such", x.price(0, 2), NONE);
    due("no such", x.price(0, -1), NONE);
  }

  private static void gains() {
    Counted x = row();
    due("0 and 2 clap", x.gain(0), 2);
    x.text(0, "clap 600 when hearer = 0; clap 0;");
    due("0 claps", x.gain(0), 1);
    x.text(0, "clap 600;");
    due("all clap", x.gain(0), 0);
    x.let(1, false);
    due("1 is away", x.gain(0), 2);
    due("no such", x.gain(2), NONE);
    due("no such", x.gain(-1), NONE);
  }

  private static void bargains() {
    Counted x = new Counted();
    due("without", x.bargain(0), NONE);
    due("without", x.bargain(1), NONE);
    x.deed(0, 1, 0);
    due("no worth", x.bargain(0), 0);
    due("no worth", x.bargain(1), 0);
    x.deed(7, 59, 0);
    due("7 by 59", x.bargain(1), 7);
    x.deed(7, 58, 0);
    due("a little more", x.bargain(0), 2);
    x.deed(1, 8, 0);
    due("more by the same quotient", x.bargain(0), 3);
    x.deed(2, 16, 0);
    due("of several the least", x.bargain(0), 3);
    due("how much", x.bargain(1), 7);
    due("another what", x.bargain(2), NONE);
    due("another what", x.bargain(-1), NONE);
  }

  private static void calms() {
    Counted x = row();
    due("who", x.calm(0), 2);
    due("sum", x.calm(1), 6);
    due("one does not clap", x.calm(10), 1);
    x.set(3, 0, 3);
    due("of several the least", x.calm(0), 0);
    x.let(0, false);
    due("of those there", x.calm(0), 2);
    due("sum", x.calm(1), 5);
    x.glove(2, true);
    due("two do not clap", x.calm(11), 2);
    due("no such deed", x.calm(12), NONE);
    due("another what", x.calm(2), NONE);
    due("another what", x.calm(9), NONE);
    due("another what", x.calm(-1), NONE);
    due("another what", x.calm(LEAST), NONE);
    x.let(1, false);
    x.let(2, false);
    due("nobody", x.calm(0), NONE);
    due("nobody", x.calm(1), 0);
    due("nobody", x.calm(10), 0);
  }

  private static void tireds() {
    Counted x = row();
    due("two each time", x.tires(0), 50);
    x.set(5, 0, 99);
    due("at once", x.tires(0), 0);
    x.set(5, 0, 0);
    x.text(0, "wears 1;");
    due("99 times", x.tires(0), 99);
    x.text(0, "wears 0;");
    due("never", x.tires(0), NONE);
    x.text(0, "wears 1 when agains > 0; wears 0;");
    due("98 in 99 times", x.tires(0), NONE);
    x.text(1, "most 0;");
    x.perform(0);
    due("now it is in a row", x.tires(0), 99);
    x.text(0, "wears 50 when late = 1; wears 0;");
    due("late by doing: behind 60 minutes", x.tires(0), 7);
    due("nothing stays", x.look(2) == 10 && x.deedOf(0, 4) == 1 && x.deedOf(0, 3) == 0, true);
    due("no such", x.tires(2), NONE);
    due("no such", x.tires(-1), NONE);
  }

  private static void undos() {
    Counted x = row();
    x.text(1, "most 0;");
    x.text(2, "at 5 deed 0;");
    x.state(77);
    due("nothing", x.undo(), false);
    x.perform(1);
    x.pay(1, 4);
    x.glove(2, true);
    x.let(0, false);
    int state = x.look(10);
    x.evenings(1);
    x.text(0, "clap 1; loud 2;");
    x.claque(1, 1);
    x.means(0, 5);
    due("five", x.look(16), 5);
    due("the evening", x.undo(), true);
    due("back", x.look(3) == 0 && x.look(2) == 20 && x.look(6) == 1 && x.look(10) == state && x.look(9) == 4
        && x.deedOf(0, 4) == 0 && x.deedOf(0, 3) == 0, true);
    due("THE LAW, CLAQUE, MEANS stay", x.look(11) == 2 && x.look(15) == 1 && x.passed(0, 1, 0) == 5, true);
    due("let in", x.undo() && x.of(0, 3) == 1 && x.look(9) == 3, true);
    due("gloves", x.undo() && x.of(2, 4) == 0, true);
    due("paid", x.undo() && x.of(1, 5) == 0 && x.look(4) == -1, true);
    due("done", x.undo() && x.look(4) == 0 && x.look(2) == 0 && x.look(6) == NONE && x.look(10) == 77
        && x.look(9) == 0 && x.deedOf(1, 4) == 0, true);
    due("nothing more", x.undo(), false);
    for (int i = 1; i <= 9; i++) {
      x.pay(0, i);
      due("six are kept", x.look(16), Math.min(6, i));
    }
    for (int i = 0; i < 6; i++) due("undo", x.undo(), true);
    due("the seventh", x.undo(), false);
    due("three stay", x.of(0, 5), 6);
    x.evenings(8);
    due("each evening by itself", x.look(16), 6);
    for (int i = 0; i < 6; i++) x.undo();
    due("two stay", x.look(3), 2);
    // done again behind what was undone
    x.pay(1, 1);
    x.pay(1, 2);
    x.undo();
    x.pay(1, 4);
    x.undo();
    due("the first stays", x.of(1, 5), 1);
    due("one more", x.undo() && x.of(1, 5) == 0, true);
  }

  private static void images() {
    Counted x = row();
    x.text(0, "clap 1;");
    x.text(1, "most 3; double 1;");
    x.text(2, "at 5 deed 0;");
    x.claque(1, 1);
    x.means(0, 5);
    x.state(9);
    x.set(0, 0, 3);
    x.pay(0, 7);
    due("none yet", x.image(false), false);
    due("taken", x.image(true), true);
    due("the taking forgets nothing", x.look(16), 1);
    for (int turn = 0; turn < 2; turn++) {
      x.hearer(1, 1, 1);
      x.deed(1, 1, 1);
      x.evenings(2);
      x.perform(1);
      x.glove(0, true);
      x.let(1, false);
      x.text(0, "");
      x.text(1, "");
      x.text(2, "");
      x.text(3, "");
      x.claque(NONE, 0);
      x.means(0, 6);
      x.set(0, 0, 4);
      x.set(1, 0, 0);
      x.set(4, 0, 0);
      x.pay(1, 1);
      x.state(1);
      fails(x, 0, "loud", 1, 4);
      x.feed(0, 0, 0, 0, 0);
      x.pay(2, 1);
      due("gone back to", x.image(false), true);
      int[] dues = {3, 2, 0, 0, -7, 3, NONE, 0, 7, 1, 9, 1, 2, 1, 2, 1, 0};
      for (int what = 0; what <= 16; what++) due("look " + what, x.look(what), dues[what]);
      due("the fault stays", x.fault(0), 1);
      due("the tape stays", x.end(20), true);
      due("no more on it", x.end(21), false);
      due("means", x.passed(0, 1, 0), 5);
      due("paid", x.of(0, 5) * 10 + x.of(1, 5), 70);
      due("hands, worth", x.of(0, 0) * 10 + x.deedOf(0, 0), 29);
      due("gloves, there, beside, counts", x.of(0, 4) == 0 && x.of(1, 3) == 1 && x.of(1, 6) == 5 && x.of(1, 7) == 2, true);
      due("clap", x.of(0, 10), 1);
      due("nothing to undo", x.undo(), false);
    }
    x.pay(1, 1);
    x.image(true);
    x.undo();
    due("undone", x.of(1, 5), 0);
    x.image(false);
    due("as it was taken", x.of(1, 5), 1);
  }

  private static void looks() {
    Counted x = row();
    due("another what", x.look(17), FAR);
    due("another what", x.look(-1), FAR);
    due("another what", x.look(LEAST), FAR);
    due("another what", x.look(GREATEST), FAR);
    x.text(0, "loud 1;");
    x.text(1, "most 1; most 0;");
    x.text(2, "at 0 deed 1; at 0 deed 1; at 0 deed 1;");
    x.set(0, 0, 12);
    x.state(5);
    x.evenings(1);
    x.claque(1, 1);
    x.let(1, false);
    int[] dues = {3, 2, 60, 1, -3, 12, 1, 2, 5};
    for (int what = 0; what < dues.length; what++) due("look " + what, x.look(what), dues[what]);
    int[] lines = {1, 2, 3, 2, 1, 2};
    for (int what = 11; what <= 16; what++) due("look " + what, x.look(what), lines[what - 11]);
    due("the book", x.look(9) >= 4, true);
  }

  private static void told() {
    promise = 1; newObject();
    promise = 2; state();
    promise = 3; hearers();
    promise = 4; deeds();
    promise = 5; sets();
    promise = 6; performs();
    rounds();
    promise = 7; pays();
    promise = 8; gloves();
    promise = 9; lets();
    promise = 10; evenings();
    tape();
    promise = 13; texts();
    promise = 15; ofs();
    promise = 16; deedOfs();
    promise = 17; statutes();
    promise = 18; books();
  }

  private static void thought() {
    promise = 19; goes();
    promise = 20; settles();
    promise = 21; makes();
    promise = 22; fills();
    promise = 23; lines();
    claques();
    seats();
    meanings();
    promise = 30; shares();
    promise = 31; brides();
    promise = 32; games();
    promise = 33; brakes();
    promise = 34; eagers();
    promise = 36; prices();
    promise = 37; gains();
    promise = 38; bargains();
    promise = 39; calms();
    promise = 40; tireds();
    promise = 41; undos();
    promise = 42; images();
    promise = 43; looks();
  }

  public static void main(String[] args) {
    Watch.over("PromiseTest");
    told();
    thought();
    System.out.println(checks + " checks, " + wrong + " wrong");
    if (wrong > 0) System.exit(1);
  }
}
