/** The edges that sections 1 and 3 of the document's Terms name: numbers, draws, doings, evenings, THE BOOK. */
final class EdgesOfTerms {
  private static final int NONE = Edges.NONE;
  private static final int LEAST = Edges.LEAST;
  private static final int GREATEST = Edges.GREATEST;

  private EdgesOfTerms() {
  }

  private static void due(String what, int got, int due) {
    Edges.due(what, got, due);
  }

  private static void due(String what, boolean got, boolean due) {
    Edges.due(what, got, due);
  }

  static void all(Edges e) {
    object(e);
    draws(e);
    hearers(e);
    deeds(e);
    hours(e);
    doing(e);
    rounds(e);
    coughing(e);
    again(e);
    evening(e);
    paying(e);
    book(e);
  }

  // ==== what it is ====

  private static void object(Edges e) {
    e.edge(1, "An object is used for at most 512 calls after it has been made", () -> {
      Counted x = new Counted();
      for (int i = 0; i < 510; i++) due("state " + i, x.state(i + 1), i);
      due("the 511th call", x.look(10), 510);
      due("the 512th call", x.hearer(9, 9, 9), 0);
      due("calls left", x.callsLeft(), 0);
    });
    e.edge(1, "`NONE = -1`: None.", () -> due("NONE", Encores.NONE, -1));
    e.edge(1, "An empty gallery.", () -> {
      Counted x = new Counted();
      due("HEARERS", x.look(0), 0);
      due("DEEDS", x.look(1), 0);
      due("those THERE", x.look(8), 0);
    });
  }

  // ==== draws ====

  /** Whether one HEARER claps by his own first DRAW from a STATE. */
  private static boolean clapsFrom(int state, int clap) {
    Counted x = new Counted();
    x.hearer(7, 0, 0);
    x.deed(0, 1, 0);
    x.text(0, "clap " + clap + ";");
    x.state(state);
    x.perform(0);
    return x.book(0, 3) == 7;
  }

  private static int stateBehindOneDraw(int state) {
    Counted x = new Counted();
    x.hearer(7, 0, 0);
    x.deed(0, 1, 0);
    x.text(1, "most 0;");
    x.state(state);
    x.perform(0);
    return x.look(10);
  }

  private static void draws(Edges e) {
    e.edge(2, "STATE of draws (an int, 0 at first)", () -> {
      Counted x = new Counted();
      due("at first", x.look(10), 0);
      due("told", x.state(GREATEST), 0);
      due("told", x.state(LEAST), GREATEST);
      due("told", x.state(-1), LEAST);
      due("as it is", x.look(10), -1);
    });
    e.edge(2, "it becomes 1664525 times itself + 1013904223 (ints, which wrap)", () -> {
      due("of 0", stateBehindOneDraw(0), 1013904223);
      due("of 1", stateBehindOneDraw(1), 1015568748);
      due("of -1", stateBehindOneDraw(-1), 1012239698);
      due("of the greatest, wrapped", stateBehindOneDraw(GREATEST), -1135243950);
      due("of the least, wrapped", stateBehindOneDraw(LEAST), -1133579425);
    });
    e.edge(6, "then it is its highest 24 bits (without sign) modulo m", () -> {
      // 1013904223 by 256 is 3960563
      due("not below 563", clapsFrom(0, 563), false);
      due("below 564", clapsFrom(0, 564), true);
      // -1135243950 without sign, by 256, is 12342669
      due("not below 669", clapsFrom(GREATEST, 669), false);
      due("below 670", clapsFrom(GREATEST, 670), true);
      // 457 leads to a DRAW of 0, 1188 to one of 999, 1676 to one of 0 from a STATE below 0
      due("0 is not below 0", clapsFrom(457, 0), false);
      due("0 is below 1", clapsFrom(457, 1), true);
      due("999 is not below 999", clapsFrom(1188, 999), false);
      due("999 is below 1000", clapsFrom(1188, 1000), true);
      due("0 is not below 0", clapsFrom(1676, 0), false);
      due("0 is below 1", clapsFrom(1676, 1), true);
    });
    e.edge(16, "Quotients go downwards.", () -> {
      int[] third = {0, 0, 0, 1, 1, 1, 2, 2, 2, 3};
      for (int worth = 0; worth <= 9; worth++) {
        Counted x = new Counted();
        x.deed(worth, 1, 0);
        due("worth " + worth + " by 3", x.deedOf(0, 5), third[worth]);
      }
      int[][] late = {{0, 0}, {59, 0}, {60, 1}, {119, 1}, {120, 2}, {9999, 166}};
      for (int[] l : late) {
        Counted x = new Counted();
        x.hearer(0, 0, 0);
        x.deed(0, 1, 0);
        x.text(0, "clap late;");
        x.text(2, "at " + l[0] + " deed 0;");
        x.text(1, "end 1;");
        x.evenings(1);
        due("late at " + l[0], x.of(0, 10), l[1]);
      }
    });
  }

  // ==== HEARERS and DEEDS ====

  private static void hearers(Edges e) {
    e.edge(3, "HEARERS 0 .. 11 as they come", () -> {
      Counted x = new Counted();
      for (int i = 0; i <= 11; i++) due("the number", x.hearer(0, 0, 0), i);
      due("a thirteenth", x.hearer(0, 0, 0), NONE);
      due("HEARERS", x.look(0), 12);
      due("the last one", x.of(11, 3), 1);
      due("no thirteenth", x.of(12, 3), NONE);
    });
    e.edge(3, "HANDS 0 .. 9, LIKES", () -> Edges.bounds("HANDS", 0, 9, v -> {
      Counted x = new Counted();
      return x.hearer(v, 0, 0) == 0 && x.of(0, 0) == v && x.look(0) == 1;
    }));
    e.edge(3, "LIKES 0 .. 9, MANNERS", () -> Edges.bounds("LIKES", 0, 9, v -> {
      Counted x = new Counted();
      return x.hearer(0, v, 0) == 0 && x.of(0, 1) == v && x.look(0) == 1;
    }));
    e.edge(3, "MANNERS 0 .. 9, THERE", () -> Edges.bounds("MANNERS", 0, 9, v -> {
      Counted x = new Counted();
      return x.hearer(0, 0, v) == 0 && x.of(0, 2) == v && x.look(0) == 1;
    }));
    e.edge(3, "THERE 1, 0 (1 at first)", () -> {
      Counted x = new Counted();
      x.hearer(0, 0, 0);
      due("at first", x.of(0, 3), 1);
      x.let(0, false);
      due("sent away", x.of(0, 3), 0);
    });
    e.edge(3, "GLOVES 0, 1 (0 at first)", () -> {
      Counted x = new Counted();
      x.hearer(9, 9, 9);
      due("at first", x.of(0, 4), 0);
      x.glove(0, true);
      due("given", x.of(0, 4), 1);
    });
    e.edge(3, "PAID 0 .. 99 (0 at first)", () -> {
      Counted x = new Counted();
      x.hearer(9, 9, 9);
      due("at first", x.of(0, 5), 0);
      x.pay(0, 98);
      due("98", x.of(0, 5), 98);
      x.pay(0, 1);
      due("99", x.of(0, 5), 99);
      x.pay(0, 1);
      due("no more than 99", x.of(0, 5), 99);
    });
    e.edge(3, "A HEARER: the number; NONE if one can't be, or there are twelve.", () -> {
      Counted x = Edges.people(11, 0);
      due("one that can't be, ahead of the twelfth", x.hearer(10, 0, 0), NONE);
      due("the twelfth", x.hearer(9, 9, 9), 11);
      due("a thirteenth", x.hearer(9, 9, 9), NONE);
    });
  }

  private static void deeds(Edges e) {
    e.edge(4, "DEEDS 0 .. 7 as they come", () -> {
      Counted x = new Counted();
      for (int i = 0; i <= 7; i++) due("the number", x.deed(0, 1, 0), i);
      due("a ninth", x.deed(0, 1, 0), NONE);
      due("DEEDS", x.look(1), 8);
      due("the last one", x.deedOf(7, 1), 1);
      due("no ninth", x.deedOf(8, 1), NONE);
    });
    e.edge(4, "WORTH 0 .. 9", () -> Edges.bounds("WORTH", 0, 9, v -> {
      Counted x = new Counted();
      return x.deed(v, 1, 0) == 0 && x.deedOf(0, 0) == v && x.look(1) == 1;
    }));
    e.edge(4, "LONG 1 .. 60 (minutes)", () -> Edges.bounds("LONG", 1, 60, v -> {
      Counted x = new Counted();
      return x.deed(0, v, 0) == 0 && x.deedOf(0, 1) == v && x.look(1) == 1;
    }));
    e.edge(4, "COST 0 .. 99", () -> Edges.bounds("COST", 0, 99, v -> {
      Counted x = new Counted();
      return x.deed(0, 1, v) == 0 && x.deedOf(0, 2) == v && x.look(1) == 1;
    }));
    e.edge(4, "WEAR 0 .. 99 (0 at first)", () -> {
      Counted x = new Counted();
      x.deed(9, 60, 99);
      due("at first", x.deedOf(0, 3), 0);
      x.text(0, "wears 98 when wear = 0; wears 1;");
      x.perform(0);
      due("98", x.deedOf(0, 3), 98);
      x.perform(0);
      due("99", x.deedOf(0, 3), 99);
      x.perform(0);
      due("no more than 99", x.deedOf(0, 3), 99);
    });
    e.edge(4, "DONE (how often, 0 at first)", () -> {
      Counted x = new Counted();
      x.deed(9, 60, 99);
      x.deed(0, 1, 0);
      due("at first", x.deedOf(0, 4), 0);
      x.perform(0);
      due("once", x.deedOf(0, 4), 1);
      due("the other one", x.deedOf(1, 4), 0);
    });
    e.edge(4, "A DEED: the number; NONE if one can't be, or there are eight.", () -> {
      Counted x = Edges.people(0, 7);
      due("one that can't be, ahead of the eighth", x.deed(0, 0, 0), NONE);
      due("the eighth", x.deed(9, 60, 99), 7);
      due("a ninth", x.deed(9, 60, 99), NONE);
    });
  }

  private static void hours(Edges e) {
    e.edge(43, "MINUTE of the evening 0 .. 9999 (0 at first)", () -> {
      Counted x = Edges.people(0, 1);
      due("at first", x.look(2), 0);
      x.text(2, "at 9999 deed 0;");
      x.text(1, "end 9999;");
      x.evenings(1);
      due("the last one", x.look(2), 9999);
      due("of an EVENING from now", x.goes(0), 9999);
    });
    e.edge(43, "EVENING 0 .. 9999 (0 at first)", () -> {
      Counted x = new Counted();
      due("at first", x.look(3), 0);
      for (int i = 0; i < 499; i++) x.evenings(20);
      due("the last but one", x.evenings(18) == 0 && x.look(3) == 9998, true);
      due("the last one", x.evenings(1) == 0 && x.look(3) == 9999, true);
      due("none behind it", x.evenings(1) == NONE && x.look(3) == 9999, true);
      due("one in thought", x.goes(0), 0);
      due("still the last one", x.look(3), 9999);
    });
    e.edge(43, "COIN (an int, 0 at first)", () -> {
      Counted x = Edges.people(1, 0);
      due("at first", x.look(4), 0);
      x.pay(0, 1);
      due("below 0", x.look(4), -1);
    });
    e.edge(5, "COUGHS 0 .. 1000 (0 at first)", () -> {
      due("at first", new Counted().look(5), 0);
      Edges.bounds("COUGHS", 0, 1000, v -> {
        Counted x = new Counted();
        return x.set(0, 0, v) && x.look(5) == v;
      });
    });
    e.edge(43, "the DEED done latest this EVENING (none at first)", () -> {
      Counted x = Edges.people(0, 2);
      due("at first", x.look(6), NONE);
      x.perform(1);
      due("1", x.look(6), 1);
      x.perform(0);
      due("0", x.look(6), 0);
      x.evenings(1);
      due("none in an EVENING without DEEDS", x.look(6), NONE);
    });
    e.edge(43, "how often it was done over in a row (0 at first)", () -> {
      Counted x = Edges.people(0, 2);
      due("at first", x.look(7), 0);
      x.perform(0);
      due("not yet", x.look(7), 0);
      x.perform(0);
      due("once", x.look(7), 1);
    });
  }

  // ==== to DO a DEED ====

  /** The WEAR of a DEED of an hour behind so many times. */
  private static int wornBy(String law, int wear, int times) {
    Counted x = new Counted();
    x.deed(0, 60, 0);
    x.text(0, law);
    x.set(5, 0, wear);
    for (int i = 0; i < times; i++) x.perform(0);
    return x.deedOf(0, 3);
  }

  private static void doing(Edges e) {
    e.edge(6, "AGAINS is 0, if NOW is another one or none, else one more", () -> {
      Counted x = Edges.people(0, 2);
      x.perform(0);
      due("NOW none", x.look(7), 0);
      x.perform(0);
      due("NOW the same", x.look(7), 1);
      x.perform(0);
      due("NOW the same", x.look(7), 2);
      x.perform(1);
      due("NOW another one", x.look(7), 0);
      x.perform(0);
      due("NOW another one", x.look(7), 0);
      x.perform(0);
      x.evenings(1);
      x.perform(0);
      due("NOW none by an EVENING", x.look(7), 0);
    });
    e.edge(6, "MINUTE is LONG more, COIN COST less, DONE one more", () -> {
      Counted x = new Counted();
      x.deed(9, 7, 3);
      x.text(1, "hands 3 from 0; most 2;");
      due("three times", x.perform(0), 3);
      due("MINUTE", x.look(2), 21);
      due("COIN", x.look(4), -9);
      due("DONE", x.deedOf(0, 4), 3);
    });
    e.edge(6, "WEAR wears more (99 at most; asked ahead of all this but AGAINS)", () -> {
      due("AGAINS as it has become", wornBy("wears 10 + agains;", 0, 1), 10);
      due("AGAINS as it has become", wornBy("wears 10 + agains;", 0, 2), 21);
      due("MINUTE as it was", wornBy("wears late * 60;", 0, 1), 0);
      due("MINUTE as it was", wornBy("wears late * 60;", 0, 2), 60);
      due("WEAR as it was", wornBy("wears wear;", 10, 1), 20);
      due("WEAR as it was", wornBy("wears wear;", 10, 2), 40);
      due("98 and 1", wornBy("wears 1;", 98, 1), 99);
      due("99 at most", wornBy("wears 2;", 98, 1), 99);
      due("99 at most", wornBy("wears 99;", 99, 1), 99);
    });
    e.edge(6, "By hand: to DO a DEED (with all agains, MINUTE going on; whatever end is, once)", () -> {
      Counted x = new Counted();
      x.deed(9, 10, 0);
      x.text(1, "hands 1 from 0; most 3; end 1;");
      due("behind the end", x.perform(0), 1);
      due("MINUTE", x.look(2), 10);
      due("far behind it", x.perform(0), 1);
      due("MINUTE goes on", x.look(2), 20);
      x.text(1, "hands 1 from 0; most 3; end 9999;");
      due("with all agains: AGAINS is 2 and 3", x.perform(0), 2);
      due("MINUTE goes on", x.look(2), 40);
    });
    e.edge(6, "NONE if there is none such, or MINUTE would not be below 9999 behind 21 times.", () -> {
      int[][] at = {{1, 9977, 1}, {1, 9978, NONE}, {60, 8738, 1}, {60, 8739, NONE}, {30, 9368, 1}, {30, 9369, NONE}, {1, 9999, NONE}};
      for (int[] a : at) {
        Counted x = new Counted();
        x.deed(0, a[0], 0);
        x.text(2, "at " + a[1] + " deed 0;");
        x.evenings(1);
        due("LONG " + a[0] + " at " + a[1], x.perform(0), a[2]);
        due("MINUTE", x.look(2), a[2] == NONE ? a[1] : a[1] + a[0]);
        due("what can be undone", x.look(16), a[2] == NONE ? 1 : 2);
      }
      Counted y = Edges.people(0, 2);
      int[] none = {-1, 2, 8, LEAST, GREATEST};
      for (int d : none) due("DEED " + d, y.perform(d), NONE);
      due("the last one", y.perform(1), 1);
      due("nothing was done but that", y.look(9), 1);
      due("without DEEDS", new Counted().perform(0), NONE);
    });
    e.edge(6, "To DO a DEED: how often it was done", () -> {
      Counted x = new Counted();
      x.deed(9, 1, 0);
      x.text(1, "hands 3 from 0; most 20;");
      due("21 times", x.perform(0), 21);
      due("AGAINS", x.look(7), 20);
      due("lines", x.look(9), 21);
      due("AGAINS is 21: no again", x.perform(0), 1);
      due("AGAINS", x.look(7), 21);
    });
  }

  private static void rounds(Edges e) {
    e.edge(6, "Then HEARER by HEARER that is THERE: a DRAW of 1000, his own for now.", () -> {
      Counted none = Edges.people(0, 1);
      none.perform(0);
      due("nobody draws", none.look(10), 0);
      Counted x = Edges.people(3, 1);
      x.let(1, false);
      x.glove(2, true);
      x.text(1, "hands 99 from 0;");
      x.state(0);
      x.perform(0);
      due("two draw, with GLOVES too", x.look(10), 1013904223 * 1664525 + 1013904223);
      // from 457 the DRAWS are 0 and another one: that of 0 is the first one's that is THERE
      Counted y = new Counted();
      y.hearer(9, 0, 0);
      y.hearer(8, 0, 0);
      y.deed(0, 1, 0);
      y.text(0, "clap 1;");
      y.text(1, "most 0;");
      y.state(457);
      y.perform(0);
      due("the first one's", y.book(0, 3), 9);
      y.let(0, false);
      y.state(457);
      y.perform(0);
      due("the second one's", y.book(2, 3), 8);
    });
    e.edge(6, "he claps, if his own DRAW is below clap (asked at his turn)", () -> {
      // 0 begins, and those behind him hear him in the same round
      Counted x = Edges.people(3, 1);
      x.text(3, Edges.row(3));
      x.text(0, "clap 1000 when hearer = 0 or beside = 1; clap 0;");
      x.text(1, "most 0;");
      x.perform(0);
      due("all hands and loud", x.book(0, 3), 4);
      due("one round", x.settles(0, 1), 1);
    });
    e.edge(6, "that is THERE, has no GLOVES and does not clap yet", () -> {
      Counted x = Edges.people(2, 1);
      x.text(0, "clap 1000;");
      x.text(1, "most 0;");
      x.perform(0);
      due("each claps once", x.book(0, 3), 3);
      x.glove(0, true);
      x.perform(0);
      due("GLOVES", x.book(2, 3), 2);
      x.let(1, false);
      x.perform(0);
      due("GLOVES and away", x.book(4, 3), 1);
    });
    e.edge(6, "till a round in which nobody begins", () -> {
      Counted x = Edges.people(12, 1);
      x.text(3, Edges.row(12));
      x.text(0, "clap 1000 when hearer = 11 or beside = 1; clap 0;");
      x.text(1, "most 0;");
      x.perform(0);
      due("all twelve, one in each round", x.book(0, 3), 13);
      due("rounds", x.settles(0, 1), 12);
      // 0 begins only when 1 and 2 beside him clap, who begin one behind the other
      Counted y = Edges.people(3, 1);
      y.text(3, "hearer 2 beside 0; hearer 1 beside 0; hearer 2 beside 1;");
      y.text(0, "clap 1000 when hearer = 2 or hearer = 1 and beside = 1 or beside = 2; clap 0;");
      due("three rounds", y.settles(0, 1), 3);
      due("all three", y.settles(0, 0), 7);
    });
    e.edge(15, "how many beside him (GALLERY) clap already", () -> {
      Counted x = Edges.people(4, 1);
      x.text(3, "hearer 3 beside 0; hearer 3 beside 1; hearer 3 beside 0;");
      x.text(1, "most 0;");
      for (int n = 0; n <= 3; n++) {
        x.text(0, "clap 1000 when hearer < 3; clap 1000 when beside = " + n + "; clap 0;");
        due("he claps at " + n + " beside him", x.settles(0, 0), n == 2 ? 15 : 7);
      }
    });
  }

  private static void coughing(Edges e) {
    e.edge(6, "If COUGHS are above 0: a DRAW of 1000", () -> {
      Counted x = Edges.people(0, 1);
      x.perform(0);
      due("COUGHS 0: no DRAW", x.look(10), 0);
      x.set(0, 0, 1);
      x.perform(0);
      due("COUGHS 1: one", x.look(10), 1013904223);
      // from 0 the DRAWS are 563 and 577: the first one is the HEARER's
      Counted y = new Counted();
      y.hearer(7, 0, 0);
      y.deed(0, 1, 0);
      y.text(0, "clap 570;");
      y.text(1, "most 0;");
      y.set(0, 0, 570);
      y.perform(0);
      due("not coughed", y.book(0, 1), 0);
      due("clapped", y.book(0, 3), 7);
    });
    e.edge(6, "below COUGHS the hands are 0", () -> {
      // from 0 the DRAW is 563, from 457 it is 0, from 1188 999
      int[][] rows = {{0, 563, 0}, {0, 564, 1}, {457, 1, 1}, {1188, 999, 0}, {1188, 1000, 1}};
      for (int[] r : rows) {
        Counted x = new Counted();
        x.deed(9, 1, 0);
        x.set(0, 0, r[1]);
        x.state(r[0]);
        due("once", x.perform(0), 1);
        due("lines from " + r[0] + " by " + r[1], x.look(9), 1 + r[2]);
        due("the hands", x.book(r[2], 3), r[2] == 1 ? 0 : 3);
      }
    });
    e.edge(6, "are they (not coughed) as many as THE STATUTE says at least", () -> {
      // hands of 3 are enough, unless coughed
      Counted x = new Counted();
      x.deed(9, 1, 0);
      x.text(1, "hands 3 from 0; most 1;");
      x.set(0, 0, 1000);
      due("coughed: not over again", x.perform(0), 1);
      due("its line", x.book(1, 3), 0);
      x.set(0, 0, 0);
      x.evenings(1);
      due("not coughed", x.perform(0), 2);
    });
  }

  private static void again(Edges e) {
    e.edge(6, "are the hands: are they (not coughed) as many as THE STATUTE says at least, AGAINS below most, and MINUTE below end", () -> {
      int[][] hands = {{2, 2}, {3, 2}, {4, 1}};
      for (int[] h : hands) {
        Counted x = new Counted();
        x.deed(9, 10, 0);
        x.text(1, "hands " + h[0] + " from 0; most 1;");
        due("3 hands of " + h[0], x.perform(0), h[1]);
      }
      int[][] most = {{0, 1}, {1, 2}, {2, 3}, {20, 21}};
      for (int[] m : most) {
        Counted x = new Counted();
        x.deed(9, 1, 0);
        x.text(1, "hands 3 from 0; most " + m[0] + ";");
        due("most " + m[0], x.perform(0), m[1]);
      }
      int[][] end = {{10, 1}, {11, 2}, {20, 2}, {21, 3}, {1, 1}};
      for (int[] n : end) {
        Counted x = new Counted();
        x.deed(9, 10, 0);
        x.text(1, "hands 3 from 0; most 9; end " + n[0] + ";");
        due("end " + n[0], x.perform(0), n[1]);
      }
    });
    e.edge(6, "The HANDS of all that clap (some twice by THE STATUTE), and loud (asked behind), are the hands", () -> {
      Counted x = new Counted();
      for (int i = 0; i < 12; i++) x.hearer(9, 9, 0);
      x.deed(0, 1, 0);
      x.text(0, "clap 1000; loud 99;");
      x.text(1, "double 0; double 11; double 11; most 0;");
      x.perform(0);
      due("14 times 9, and 99", x.book(0, 3), 225);
      // loud with the WEAR, the AGAINS and the MINUTE of behind
      Counted y = new Counted();
      y.deed(0, 60, 0);
      y.text(0, "wears 7; loud wear + late * 20 + agains * 40;");
      y.text(1, "hands 99 from 0;");
      y.perform(0);
      due("7 and 20", y.book(0, 3), 27);
      y.perform(0);
      due("14, 40 and 40", y.book(1, 3), 94);
      y.perform(0);
      due("99 at most", y.book(2, 3), 99);
    });
  }

  private static void evening(Edges e) {
    e.edge(10, "An EVENING: MINUTE is 0, NOW none, AGAINS 0", () -> {
      Counted x = Edges.people(0, 1);
      x.perform(0);
      x.perform(0);
      due("an EVENING without lines", x.evenings(1), 0);
      due("MINUTE", x.look(2), 0);
      due("NOW", x.look(6), NONE);
      due("AGAINS", x.look(7), 0);
      x.perform(0);
      x.text(2, "at 0 deed 0;");
      due("the same DEED first", x.evenings(1), 1);
      due("is not again", x.look(7), 0);
      due("from 0 on", x.look(2), 10);
    });
    e.edge(10, "MINUTE is its MINUTE, if that is more", () -> {
      int[][] rows = {{9, 20}, {10, 20}, {11, 21}, {0, 20}};
      for (int[] r : rows) {
        Counted x = Edges.people(0, 2);
        x.text(2, "at 0 deed 0; at " + r[0] + " deed 1;");
        due("two", x.evenings(1), 2);
        due("at 10, then at " + r[0], x.look(2), r[1]);
      }
    });
    e.edge(10, "if that is below end, its DEED is done, with all agains", () -> {
      int[][] rows = {{99, 1}, {100, 0}, {101, 0}};
      for (int[] r : rows) {
        Counted x = Edges.people(0, 1);
        x.text(1, "end 100;");
        x.text(2, "at " + r[0] + " deed 0;");
        due("at " + r[0], x.evenings(1), r[1]);
        due("MINUTE", x.look(2), r[0] + 10 * r[1]);
      }
      // the agains of the first line make the second one too late
      Counted y = new Counted();
      y.deed(9, 10, 0);
      y.deed(0, 10, 0);
      y.text(1, "hands 3 from 0; most 2; end 30;");
      y.text(2, "at 0 deed 0; at 5 deed 1;");
      due("three times the first", y.evenings(1), 3);
      due("NOW", y.look(6), 0);
      y.text(1, "hands 3 from 0; most 2; end 31;");
      due("and once the second", y.evenings(1), 4);
    });
    e.edge(10, "MINUTE is its MINUTE, if that is more; if that is below end, its DEED is done, with all agains.", () -> {
      // LONG of what begins below end is all in MINUTE, above 9999 too
      int[][] rows = {{9938, 60, 9998}, {9939, 60, 9999}, {9940, 60, 10000}, {9998, 1, 9999}, {9998, 2, 10000}, {9998, 60, 10058}};
      for (int[] r : rows) {
        Counted x = new Counted();
        x.deed(0, r[1], 1);
        x.deed(0, 1, 1);
        x.text(1, "end 9999;");
        x.text(2, "at " + r[0] + " deed 0; at 9999 deed 1;");
        int last = Math.max(9999, r[2]);
        due("in thought from " + r[0], x.goes(0), last);
        due("once from " + r[0], x.evenings(1), 1);
        due("MINUTE from " + r[0], x.look(2), last);
        due("not by hand behind it", x.perform(1), NONE);
        due("late from " + r[0], lateOf(x), last / 60);
      }
      // with agains: the last one begins below end
      Counted y = new Counted();
      y.deed(9, 60, 0);
      y.text(1, "hands 1 from 0; most 20; end 9999;");
      y.text(2, "at 9819 deed 0;");
      due("9819, 9879, 9939", y.evenings(1), 3);
      due("no again at 9999", y.look(2), 9999);
      y.text(2, "at 9818 deed 0;");
      due("9818, 9878, 9938, 9998", y.evenings(1), 4);
      due("an again at 9998", y.look(2), 10058);
    });
    e.edge(10, "EVENING is one more then (MINUTE, NOW, AGAINS stay as they are till the next one)", () -> {
      Counted x = Edges.people(0, 2);
      x.text(2, "at 7 deed 1; at 20 deed 1;");
      x.evenings(1);
      due("EVENING", x.look(3), 1);
      due("MINUTE", x.look(2), 30);
      due("NOW", x.look(6), 1);
      due("AGAINS", x.look(7), 1);
      due("THE BOOK has the EVENING of before", x.book(1, 0), 0);
      x.perform(1);
      due("by hand it goes on", x.look(7), 2);
      due("THE BOOK has the EVENING of now", x.book(2, 0), 1);
    });
  }

  /** late, as THE LAW tells it now. */
  private static int lateOf(Counted x) {
    x.text(0, "wears late / 2; loud late - late / 2;");
    return x.deedOf(0, 5) + x.deedOf(0, 6);
  }

  private static void paying(Edges e) {
    e.edge(7, "PAID N more (99 at most), COIN N less", () -> {
      Counted x = Edges.people(1, 0);
      x.pay(0, 50);
      due("PAID", x.of(0, 5), 50);
      x.pay(0, 50);
      due("99 at most", x.of(0, 5), 99);
      due("COIN all the same", x.look(4), -100);
      due("THE BOOK all the same", x.book(1, 3), 50);
    });
  }

  // ==== THE BOOK ====

  private static void book(Edges e) {
    e.edge(18, "THE BOOK (150 lines; no more then)", () -> {
      Counted x = Edges.people(1, 1);
      for (int i = 0; i < 149; i++) x.pay(0, 1);
      due("149", x.look(9), 149);
      x.glove(0, true);
      due("150", x.look(9), 150);
      due("the last line", x.book(149, 1), 4);
      due("let", x.let(0, false), true);
      due("perform", x.perform(0), 1);
      due("no more", x.look(9), 150);
      due("the last line stays", x.book(149, 1), 4);
      due("no line 150", x.book(150, 1), NONE);
      due("done all the same", x.deedOf(0, 4) == 1 && x.of(0, 3) == 0, true);
      due("undone", x.undo() && x.look(9) == 150 && x.deedOf(0, 4) == 0, true);
      due("undone", x.undo() && x.look(9) == 150 && x.of(0, 3) == 1, true);
      due("undone", x.undo() && x.look(9) == 149 && x.book(149, 1) == NONE, true);
    });
    e.edge(18, "a line 2 ahead of that", () -> {
      Counted x = Edges.people(1, 1);
      x.set(0, 0, 1000);
      x.perform(0);
      due("first", x.book(0, 1), 2);
      due("then", x.book(1, 1), 0);
      due("two lines", x.look(9), 2);
      // with one line left only the first one comes
      Counted y = Edges.people(1, 1);
      y.set(0, 0, 1000);
      for (int i = 0; i < 149; i++) y.pay(0, 1);
      y.perform(0);
      due("full", y.look(9), 150);
      due("coughed", y.book(149, 1), 2);
    });
    e.edge(18, "what (0 done, 1 again, 2 coughed, 3 paid, 4 gloves, 5 sent away or let in)", () -> {
      Counted x = new Counted();
      x.hearer(1, 0, 0);
      x.hearer(1, 0, 0);
      x.deed(0, 1, 0);
      x.deed(9, 1, 0);
      x.text(1, "hands 3 from 0; most 1;");
      x.evenings(1);
      x.perform(1);
      x.pay(1, 99);
      x.glove(1, true);
      x.glove(1, false);
      x.let(1, false);
      x.let(1, true);
      x.set(0, 0, 1000);
      x.perform(1);
      int[][] dues = {{1, 0, 1, 3}, {1, 1, 1, 3}, {1, 3, 1, 99}, {1, 4, 1, 1}, {1, 4, 1, 0}, {1, 5, 1, 0}, {1, 5, 1, 1},
        {1, 2, 1, 0}, {1, 1, 1, 0}};
      due("lines", x.look(9), dues.length);
      for (int i = 0; i < dues.length; i++)
        for (int what = 0; what < 4; what++) due("line " + i + ", " + what, x.book(i, what), dues[i][what]);
    });
    e.edge(18, "A line 0 or 1 for each time it is done, once its hands are known", () -> {
      Counted x = new Counted();
      x.deed(9, 1, 0);
      x.text(1, "hands 3 from 0; most 2;");
      x.perform(0);
      int[] dues = {0, 1, 1};
      for (int i = 0; i < 3; i++) due("line " + i, x.book(i, 1), dues[i]);
      due("three lines", x.look(9), 3);
      x.perform(0);
      due("over again by hand", x.book(3, 1), 1);
    });
  }
}
