import java.util.ArrayList;
import java.util.List;
import java.util.function.Consumer;

/** The edges of the calls that tell, do and look: promises 2, 5, 7 to 18, 41 to 43. */
final class EdgesOfCalls {
  private static final int NONE = Edges.NONE;
  private static final int FAR = Edges.FAR;
  private static final int LEAST = Edges.LEAST;
  private static final int GREATEST = Edges.GREATEST;

  private EdgesOfCalls() {
  }

  private static void due(String what, int got, int due) {
    Edges.due(what, got, due);
  }

  private static void due(String what, boolean got, boolean due) {
    Edges.due(what, got, due);
  }

  static void all(Edges e) {
    sets(e);
    payings(e);
    gloves(e);
    lets(e);
    evenings(e);
    feeds(e);
    ends(e);
    texts(e);
    asked(e);
    undos(e);
    forgets(e);
    images(e);
    looks(e);
  }

  // ==== what is told ====

  private static void sets(Edges e) {
    e.edge(2, "STATE is told: what it was.", () -> {
      Counted x = new Counted();
      due("at first", x.state(5), 0);
      due("then", x.state(5), 5);
      due("then", x.state(0), 5);
    });
    e.edge(5, "What 0 COUGHS (who not asked)", () -> {
      Counted x = new Counted();
      for (int who : new int[] {0, -1, 12, LEAST, GREATEST}) {
        due("who " + who, x.set(0, who, who & 511), true);
        due("COUGHS", x.look(5), who & 511);
      }
    });
    e.edge(5, "1 HANDS, 2 LIKES, 3 MANNERS of HEARER who", () -> {
      for (int what = 1; what <= 3; what++) {
        final int w = what;
        Edges.bounds("what " + what, 0, 9, v -> {
          Counted x = Edges.people(2, 2);
          return x.set(w, 1, v) && x.of(1, w - 1) == v;
        });
        Counted x = Edges.people(2, 3);
        for (int who : new int[] {-1, 2, 12, LEAST, GREATEST}) due("HEARER " + who, x.set(what, who, 1), false);
        due("the last one", x.set(what, 1, 1), true);
      }
    });
    e.edge(5, "4 WORTH, 5 WEAR of DEED who", () -> {
      Edges.bounds("WORTH", 0, 9, v -> {
        Counted x = Edges.people(0, 2);
        return x.set(4, 1, v) && x.deedOf(1, 0) == v;
      });
      Edges.bounds("WEAR", 0, 99, v -> {
        Counted x = Edges.people(0, 2);
        return x.set(5, 1, v) && x.deedOf(1, 3) == v;
      });
      for (int what = 4; what <= 5; what++) {
        Counted x = Edges.people(3, 2);
        for (int who : new int[] {-1, 2, 8, LEAST, GREATEST}) due("DEED " + who, x.set(what, who, 1), false);
        due("the last one", x.set(what, 1, 1), true);
      }
    });
    e.edge(5, "true; false if one can't be, or another what.", () -> Edges.bounds("what", 0, 5, what -> {
      Counted x = Edges.people(1, 1);
      return x.set(what, 0, 1);
    }));
  }

  // ==== what is done ====

  private static void payings(Edges e) {
    e.edge(7, "To PAY N (1 .. 99): true; false if it can't be.", () -> {
      Edges.bounds("N", 1, 99, n -> {
        Counted x = Edges.people(1, 0);
        return x.pay(0, n) && x.of(0, 5) == n && x.look(4) == -n && x.look(9) == 1;
      });
      Edges.bounds("HEARER of three", 0, 2, h -> Edges.people(3, 4).pay(h, 1));
      due("without HEARERS", new Counted().pay(0, 1), false);
      Counted x = Edges.people(1, 0);
      x.let(0, false);
      due("one sent away", x.pay(0, 1), true);
    });
  }

  private static void gloves(Edges e) {
    e.edge(8, "GLOVES given or taken: true; false if it is so, or there is none such.", () -> {
      Counted x = Edges.people(1, 0);
      due("he has none", x.glove(0, false), false);
      due("given", x.glove(0, true), true);
      due("he has some", x.glove(0, true), false);
      due("taken", x.glove(0, false), true);
      due("he has none", x.glove(0, false), false);
      due("two lines", x.look(9), 2);
      due("two to be undone", x.look(16), 2);
      Edges.bounds("HEARER of three", 0, 2, h -> Edges.people(3, 4).glove(h, true));
      due("without HEARERS", new Counted().glove(0, true), false);
      due("without HEARERS", new Counted().glove(0, false), false);
      due("none is there, none has any", Edges.people(2, 0).glove(2, false), false);
    });
  }

  private static void lets(Edges e) {
    e.edge(9, "Let in (true) or sent away: true; false if it is so, or there is none such.", () -> {
      Counted x = Edges.people(1, 0);
      due("he is there", x.let(0, true), false);
      due("sent away", x.let(0, false), true);
      due("he is away", x.let(0, false), false);
      due("let in", x.let(0, true), true);
      due("he is there", x.let(0, true), false);
      due("two lines", x.look(9), 2);
      due("two to be undone", x.look(16), 2);
      Edges.bounds("HEARER of three", 0, 2, h -> Edges.people(3, 4).let(h, false));
      due("without HEARERS", new Counted().let(0, true), false);
      due("without HEARERS", new Counted().let(0, false), false);
      due("none is there to be away", Edges.people(2, 0).let(2, true), false);
    });
  }

  private static void evenings(Edges e) {
    e.edge(10, "EVENINGS go by (1 .. 20): how many DEEDS were done (agains, too).", () -> {
      Edges.bounds("EVENINGS", 1, 20, n -> {
        Counted x = Edges.people(0, 1);
        x.text(2, "at 0 deed 0;");
        return x.evenings(n) == n && x.look(3) == n && x.deedOf(0, 4) == n;
      });
      Counted y = new Counted();
      y.deed(9, 1, 0);
      y.text(1, "hands 3 from 0; most 20;");
      y.text(2, Edges.times(16, "at 0 deed 0;"));
      due("21 times, and 15 times once", y.evenings(1), 36);
      due("without DEEDS", new Counted().evenings(20), 0);
    });
    e.edge(10, "NONE, and nothing is done, if one can't be, or EVENING would be above 9999.", () -> {
      Counted x = Edges.people(0, 1);
      for (int i = 0; i < 499; i++) x.evenings(20);
      due("10000", x.evenings(20), NONE);
      due("nothing is done", x.look(3), 9980);
      due("9999", x.evenings(19), 0);
      due("the last one", x.look(3), 9999);
      due("one more", x.evenings(1), NONE);
      due("nothing is done", x.look(3), 9999);
      due("undone", x.undo() && x.look(3) == 9998, true);
      due("two", x.evenings(2), NONE);
      due("one", x.evenings(1), 0);
    });
  }

  // ==== the TAPE ====

  private static int spaces(Counted x) {
    return x.feed(0x20202020, 0x20202020, 0x20202020, 0x20202020, 0x20202020);
  }

  private static void feeds(Edges e) {
    e.edge(11, "Twenty bytes come behind the TAPE, of each number the highest first: how many it has.", () -> {
      Counted x = Edges.people(1, 0);
      due("behind none", x.feed(0x6d6f7374, 0x20313b20, 0x20202020, 0x20202020, 0x2020206d), 20);
      due("behind 20", x.feed(0x6f737420, 0x323bffff, -1, LEAST, GREATEST), 40);
      x.end(26);
      due("most 1; most 2;", x.text(1), 2);
      due("the last of them", x.statute(1), 2);
      due("behind none again", spaces(x), 20);
    });
    e.edge(11, "NONE, and nothing comes, if there would be more than 400.", () -> {
      Counted x = new Counted();
      for (int i = 1; i <= 20; i++) due("feed", spaces(x), 20 * i);
      due("420", spaces(x), NONE);
      due("none of them came", x.end(401), false);
      due("400 stay", x.end(400), true);
      x.end(381);
      due("401", spaces(x), NONE);
      due("none of them came", x.end(382), false);
      due("381 stay", x.end(381), true);
      x.end(380);
      due("400", spaces(x), 400);
      due("read", x.text(0), 0);
      due("from the front again", spaces(x), 20);
      // the bytes of what is refused are not there later on either
      Counted y = new Counted();
      for (int i = 1; i <= 20; i++) spaces(y);
      y.feed(-1, -1, -1, -1, -1);
      due("blanks alone", y.text(0), 0);
    });
  }

  private static void ends(Edges e) {
    e.edge(12, "true; false, changing nothing, if it has not so many, or n is below 0.", () -> {
      Counted x = new Counted();
      due("0 of none", x.end(0), true);
      due("1 of none", x.end(1), false);
      due("-1 of none", x.end(-1), false);
      spaces(x);
      Edges.bounds("end of 20", 0, 20, n -> {
        Counted y = new Counted();
        spaces(y);
        return y.end(n);
      });
      due("21 of 20", x.end(21), false);
      due("-1 of 20", x.end(-1), false);
      due("the least", x.end(LEAST), false);
      due("still 20", spaces(x), 40);
      due("to 7", x.end(7), true);
      due("8 of 7", x.end(8), false);
      due("7 of 7", x.end(7), true);
      due("27", spaces(x), 27);
    });
    e.edge(12, "The TAPE has its first n bytes alone", () -> {
      Counted x = Edges.people(1, 0);
      x.tape("most 1; most 2; most");
      x.end(7);
      due("one line", x.text(1), 1);
      due("the first", x.statute(1), 1);
    });
  }

  // ==== the texts ====

  private static void texts(Edges e) {
    e.edge(13, "NONE: no such one (fault() tells 0)", () -> {
      for (int k : new int[] {-1, 4, LEAST, GREATEST}) {
        Counted x = Edges.people(1, 0);
        x.pay(0, 1);
        x.text(0, "loud");
        due("a FAULT before", x.fault(0), 1);
        x.tape("loud");
        due("text " + k, x.text(k), NONE);
        due("its FAULT", x.fault(0), 0);
        due("its place", x.fault(1), NONE);
        due("the TAPE is empty", x.end(1), false);
        due("it forgets nothing", x.look(16), 1);
      }
      Edges.bounds("text", 0, 3, k -> new Counted().text(k) == 0);
    });
    e.edge(13, "or a FAULT (the TEXT stays as it was; the TAPE is empty in each case)", () -> {
      String[] texts = {"loud 7;", "most 3;", "at 9 deed 0;", "hearer 0 beside 1;"};
      String[] bad = {"loud 8; loud 9", "most 4; most 5", "at 8 deed 0; at", "hearer 0 beside 2;"};
      Counted x = Edges.people(2, 1);
      for (int k = 0; k <= 3; k++) {
        due("lines", x.text(k, texts[k]), 1);
        due("the TAPE is empty", x.end(1), false);
        due("FAULT", x.text(k, bad[k]), NONE);
        due("the TAPE is empty", x.end(1), false);
        due("a line", x.look(11 + k), 1);
      }
      due("loud", x.deedOf(0, 5), 7);
      due("most", x.statute(1), 3);
      due("at 9, four times", x.goes(0), 49);
      due("beside", x.of(0, 6), 2);
    });
    e.edge(14, "Of the latest text(): what 0 the FAULT (0 without one), 1 its place (NONE). NONE for another what.", () -> {
      Counted x = Edges.people(1, 1);
      due("without a text", x.fault(0), 0);
      due("without a text", x.fault(1), NONE);
      x.text(0, "loud 1/0;");
      due("the FAULT", x.fault(0), 2);
      due("its place", x.fault(1), 7);
      for (int what : new int[] {-1, 2, LEAST, GREATEST}) due("what " + what, x.fault(what), NONE);
      due("told as often as one likes", x.fault(0), 2);
      x.text(1, ";");
      due("of the latest", x.fault(0), 1);
      due("of the latest", x.fault(1), 0);
      x.text(0, "loud 1;");
      due("without one", x.fault(0), 0);
      due("without one", x.fault(1), NONE);
    });
  }

  // ==== what is asked ====

  private static void asked(Edges e) {
    e.edge(15, "10 + d clap at DEED d (nobody claps beside him yet). NONE if there is none such, or another what.", () -> {
      Counted x = Edges.people(2, 2);
      x.text(0, "clap 5 + beside;");
      x.text(3, "hearer 0 beside 1;");
      due("at DEED 0", x.of(1, 10), 5);
      due("at DEED 1", x.of(1, 11), 5);
      for (int what : new int[] {-1, 8, 9, 12, 18, LEAST, GREATEST}) due("what " + what, x.of(1, what), NONE);
      due("the last what", x.of(1, 7), 1);
      for (int h : new int[] {-1, 2, 12, LEAST, GREATEST}) {
        due("HEARER " + h, x.of(h, 0), NONE);
        due("HEARER " + h, x.of(h, 10), NONE);
      }
      due("without HEARERS", new Counted().of(0, 0), NONE);
      due("without DEEDS", Edges.people(1, 0).of(0, 10), NONE);
      Counted y = Edges.people(1, 8);
      due("at DEED 7", y.of(0, 17), 900);
      due("at DEED 8", y.of(0, 18), NONE);
    });
    e.edge(16, "4 DONE, 5 loud, 6 wears. NONE if there is none such, or another what.", () -> {
      Counted x = Edges.people(3, 2);
      due("the last what", x.deedOf(1, 6), 2);
      for (int what : new int[] {-1, 7, 10, LEAST, GREATEST}) due("what " + what, x.deedOf(1, what), NONE);
      for (int d : new int[] {-1, 2, 8, LEAST, GREATEST})
        for (int what : new int[] {0, 4, 5, 6}) due("DEED " + d, x.deedOf(d, what), NONE);
      due("without DEEDS", new Counted().deedOf(0, 5), NONE);
    });
    e.edge(17, "THE STATUTE now: what 0 hands, 1 most, 2 end. NONE for another what.", () ->
        Edges.bounds("what", 0, 2, what -> new Counted().statute(what) != NONE));
    e.edge(18, "Of line i of THE BOOK what 0 EVENING, 1 what, 2 which, 3 how much. NONE if there is none such, or another what.", () -> {
      Counted x = Edges.people(1, 0);
      due("an empty one", x.book(0, 0), NONE);
      for (int i = 0; i < 3; i++) x.pay(0, 1 + i);
      Edges.bounds("line of three", 0, 2, i -> x.book(i, 3) == i + 1);
      Edges.bounds("what", 0, 3, what -> x.book(2, what) != NONE);
      x.undo();
      due("an undone one", x.book(2, 3), NONE);
      due("the last one", x.book(1, 3), 2);
    });
  }

  // ==== going back ====

  private static void undos(Edges e) {
    e.edge(41, "UNDO: true; false if there is nothing.", () -> {
      Counted x = Edges.people(1, 0);
      due("nothing", x.undo(), false);
      x.pay(0, 1);
      due("one", x.undo(), true);
      due("nothing", x.undo(), false);
      due("without HEARERS", new Counted().undo(), false);
    });
    e.edge(41, "6 are kept", () -> {
      for (int n = 5; n <= 20; n++) {
        Counted x = Edges.people(1, 0);
        for (int i = 0; i < n; i++) x.pay(0, 1);
        due("of " + n, x.look(16), Math.min(n, 6));
        int undone = 0;
        while (undone < 9 && x.undo()) undone++;
        due("undone of " + n, undone, Math.min(n, 6));
        due("what stays of " + n, x.of(0, 5), n - undone);
        due("nothing", x.look(16), 0);
      }
      // some undone and some done in between
      Counted y = Edges.people(1, 0);
      for (int i = 1; i <= 7; i++) y.pay(0, i);
      for (int i = 0; i < 4; i++) y.undo();
      due("1, 2 and 3", y.of(0, 5), 6);
      due("two yet", y.look(16), 2);
      for (int i = 8; i <= 12; i++) y.pay(0, i);
      due("six", y.look(16), 6);
      for (int i = 0; i < 5; i++) y.undo();
      due("1, 2 and 3", y.of(0, 5), 6);
      due("one more", y.undo(), true);
      due("1 and 2", y.of(0, 5), 3);
      due("no more", y.undo(), false);
    });
    e.edge(41, "the latest EVENING, DOING, PAYING, GLOVING, sending away or letting in not undone yet goes back (STATE, THE BOOK, too)", () -> {
      Counted x = Edges.people(2, 1);
      x.text(2, "at 5 deed 0;");
      x.set(0, 0, 700);
      x.state(9);
      x.let(1, false);
      x.pay(0, 3);
      x.perform(0);
      int[] before = new int[17];
      for (int what = 0; what <= 16; what++) before[what] = x.look(what);
      int wear = x.deedOf(0, 3);
      Runnable[] doings = {() -> x.evenings(1), () -> x.perform(0), () -> x.pay(0, 99), () -> x.glove(0, true),
        () -> x.let(0, false), () -> x.let(1, true)};
      for (int i = 0; i < doings.length; i++) {
        doings[i].run();
        due("what can be undone", x.look(16), 4);
        due("doing " + i, x.undo(), true);
        for (int what = 0; what <= 16; what++) due("look " + what + " behind " + i, x.look(what), before[what]);
        due("WEAR, DONE", x.deedOf(0, 3) * 100 + x.deedOf(0, 4), wear * 100 + 1);
        due("PAID, GLOVES, THERE", x.of(0, 5) * 100 + x.of(0, 4) * 10 + x.of(1, 3), 300);
      }
      x.evenings(3);
      due("EVENINGS one by one", x.undo() && x.look(3) == 2, true);
    });
  }

  private static void forgets(Edges e) {
    List<Consumer<Counted>> keep = List.of(x -> x.text(0, "loud 1;"), x -> x.text(0, ""), x -> x.claque(1, 1),
        x -> x.claque(NONE, 0), x -> x.means(1, 2), x -> x.image(true), x -> x.goes(0));
    List<Consumer<Counted>> forget = List.of(x -> x.state(0), x -> x.hearer(0, 0, 0), x -> x.deed(0, 1, 0),
        x -> x.set(0, 0, 0), x -> x.set(1, 0, 1), x -> x.set(2, 0, 9), x -> x.set(3, 0, 0), x -> x.set(4, 0, 3),
        x -> x.set(5, 0, 0), x -> x.text(1, ""), x -> x.text(2, ""), x -> x.text(3, ""), x -> x.image(false));
    e.edge(41, "whatever else is told but THE LAW, CLAQUE, MEANS (the taking of THE IMAGE does not) forgets them", () -> {
      for (int i = 0; i < keep.size(); i++) due("kept behind " + i, undoneBehind(keep.get(i)), 2);
      for (int i = 0; i < forget.size(); i++) due("kept behind " + i, undoneBehind(forget.get(i)), 0);
    });
  }

  /** How many of two doings can be undone behind something that is told. */
  private static int undoneBehind(Consumer<Counted> telling) {
    Counted x = Edges.people(2, 1);
    x.image(true);
    x.pay(0, 1);
    x.pay(0, 1);
    telling.accept(x);
    int kept = x.look(16);
    due("and undone", x.undo(), kept > 0);
    return kept;
  }

  private static void images(Edges e) {
    e.edge(42, "THE IMAGE is taken (true), or gone back to (false): true; false if there is none.", () -> {
      Counted x = Edges.people(1, 0);
      x.pay(0, 1);
      due("none", x.image(false), false);
      due("nothing is changed", x.look(16) == 1 && x.of(0, 5) == 1, true);
      due("taken", x.image(true), true);
      due("gone back to", x.image(false), true);
      due("taken of an empty gallery", new Counted().image(true), true);
      due("none of an empty gallery", new Counted().image(false), false);
    });
    e.edge(42, "as it was when it was taken; gone back to it may be more than once", () -> {
      Counted x = new Counted();
      x.image(true);
      for (int i = 0; i < 3; i++) {
        due("a HEARER", x.hearer(1, 1, 1), 0);
        due("a DEED", x.deed(1, 1, 1), 0);
        due("back", x.image(false), true);
        due("empty", x.look(0) + x.look(1), 0);
      }
      x.hearer(2, 2, 2);
      x.image(true);
      x.hearer(3, 3, 3);
      due("back to the later one", x.image(false) && x.look(0) == 1 && x.of(0, 0) == 2, true);
    });
    e.edge(42, "THE IMAGE: all that is and was told", () -> {
      List<Consumer<Counted>> tellings = List.of(x -> x.state(5), x -> x.hearer(1, 1, 1), x -> x.deed(1, 1, 1), x -> x.set(0, 0, 7),
          x -> x.set(1, 0, 7), x -> x.set(2, 0, 7), x -> x.set(3, 0, 7), x -> x.set(4, 0, 7), x -> x.set(5, 0, 7),
          x -> x.text(0, "loud 8;"), x -> x.text(0, "loud 4; loud 5;"), x -> x.text(1, "most 8;"), x -> x.text(1, "double 1; end 7;"),
          x -> x.text(2, "at 8 deed 0;"), x -> x.text(2, ""), x -> x.text(3, "hearer 0 beside 1;"), x -> x.text(3, ""), x -> x.claque(NONE, 0),
          x -> x.claque(2, 1), x -> x.means(4, 8), x -> x.perform(0), x -> x.pay(0, 9), x -> x.glove(1, true), x -> x.let(1, false),
          x -> x.evenings(2), x -> x.undo());
      for (int i = 0; i < tellings.size(); i++) {
        Counted x = told();
        List<Integer> due = seen(x);
        Counted y = told();
        y.image(true);
        tellings.get(i).accept(y);
        due("telling " + i + " is seen", seen(y).equals(due), false);
        y.image(false);
        due("what can be undone", y.look(16), 0);
        due("telling " + i + " is gone", seen(y).equals(due), true);
      }
    });
    e.edge(42, "all that is and was told but the TAPE, fault() and what can be undone (nothing then)", () -> {
      Counted x = Edges.people(2, 1);
      x.pay(0, 1);
      x.tape("loud");
      x.image(true);
      x.pay(0, 2);
      x.text(0, "loud");
      x.tape("most 1;");
      due("back", x.image(false), true);
      due("the FAULT stays", x.fault(0) * 10 + x.fault(1), 14);
      due("the TAPE stays", x.text(1), 1);
      due("PAID as it was", x.of(0, 5), 1);
      due("nothing can be undone", x.look(16), 0);
      due("nothing can be undone", x.undo(), false);
    });
  }

  /** Something of all that can be told, and done. */
  private static Counted told() {
    Counted x = Edges.people(3, 1);
    x.text(0, "loud 7;");
    x.text(1, "most 1; end 500;");
    x.text(2, "at 5 deed 0;");
    x.text(3, "hearer 2 beside 1;");
    x.claque(7, 2);
    x.means(4, 5);
    x.perform(0);
    x.pay(0, 3);
    return x;
  }

  /** All that can be seen of it but what can be undone. */
  private static List<Integer> seen(Counted x) {
    List<Integer> seen = new ArrayList<>();
    for (int what = 0; what < 16; what++) seen.add(x.look(what));
    for (int h = 0; h < 3; h++) for (int what = 0; what <= 10; what++) seen.add(x.of(h, what));
    for (int what = 0; what <= 6; what++) seen.add(x.deedOf(0, what));
    for (int what = 0; what < 3; what++) seen.add(x.statute(what));
    for (int i = 0; i < 4; i++) for (int what = 0; what < 4; what++) seen.add(x.book(i, what));
    for (int what = 0; what < 3; what++) seen.add(x.fits(what));
    for (int what = 0; what < 2; what++) seen.add(x.goes(what));
    seen.add(x.goes(10));
    seen.add(x.passed(4, 1, 0));
    return seen;
  }

  private static void looks(Edges e) {
    e.edge(43, "NONE - 99999 for another what.", () -> {
      Counted x = new Counted();
      for (int what = 0; what <= 16; what++) due("what " + what, x.look(what) == FAR, false);
      for (int what : new int[] {-1, 17, LEAST, GREATEST}) due("what " + what, x.look(what), FAR);
    });
    e.edge(43, "8 those THERE (a set)", () -> {
      Counted x = Edges.people(12, 0);
      due("all", x.look(8), 4095);
      x.let(0, false);
      x.let(11, false);
      due("without the first and the last", x.look(8), 2046);
    });
    e.edge(43, "6 NOW (NONE)", () -> due("NOW", new Counted().look(6), NONE));
    e.edge(43, "(STATE, COIN as they are.)", () -> {
      Counted x = Edges.people(1, 0);
      x.state(LEAST);
      due("STATE", x.look(10), LEAST);
      x.state(FAR);
      due("STATE", x.look(10), FAR);
      x.pay(0, 99);
      due("COIN", x.look(4), -99);
    });
  }
}
