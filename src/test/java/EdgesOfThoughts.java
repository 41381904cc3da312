import java.util.List;
import java.util.function.ToIntFunction;

/** The edges of what is asked in thought: section 4 of the document's Terms and promises 19 to 40. */
final class EdgesOfThoughts {
  private static final int NONE = Edges.NONE;
  private static final int FAR = Edges.FAR;
  private static final int LEAST = Edges.LEAST;
  private static final int GREATEST = Edges.GREATEST;
  private static final int[] NO_DEED = {-1, 2, 8, LEAST, GREATEST};

  private EdgesOfThoughts() {
  }

  private static void due(String what, int got, int due) {
    Edges.due(what, got, due);
  }

  private static void due(String what, boolean got, boolean due) {
    Edges.due(what, got, due);
  }

  static void all(Edges e) {
    own(e);
    late(e);
    stays(e);
    goes(e);
    settles(e);
    makes(e);
    fills(e);
    lines(e);
    claques(e);
    fits(e);
    cuts(e);
    near(e);
    means(e);
    shares(e);
    brides(e);
    games(e);
    brakes(e);
    eager(e);
    groups(e);
    prices(e);
    gains(e);
    bargains(e);
    calms(e);
    tires(e);
  }

  // ==== how evenings and DEEDS go ====

  private static void own(Edges e) {
    e.edge(20, "no DRAWS: each one's own is 500, nobody coughs", () -> {
      int[][] rows = {{499, 0}, {500, 0}, {501, 1}, {1000, 1}};
      for (int[] r : rows) {
        Counted x = Edges.people(1, 1);
        x.text(0, "clap " + r[0] + "; loud 0;");
        x.text(1, "hands 1 from 0; most 1;");
        x.text(2, "at 0 deed 0;");
        x.set(0, 0, 1000);
        due("settles at " + r[0], x.settles(0, 0), r[1]);
        due("hands at " + r[0], x.settles(0, 2), r[1]);
        due("goes at " + r[0], x.goes(10), 1 + r[1]);
        due("makes at " + r[0], x.makes(0, 1, 0), r[1]);
        due("brakes at " + r[0], x.brakes(0, 0), r[1]);
        due("price at " + r[0], x.price(0, 0), r[1] == 1 ? 0 : NONE);
        due("calm at " + r[0], x.calm(10), 1 - r[1]);
        due("STATE", x.look(10), 0);
      }
    });
  }

  private static void late(Edges e) {
    e.edge(6, "or MINUTE would not be below 9999 behind 21 times", () -> {
      // where doing it by hand is refused, thoughts of it are not; it ends at MINUTE 9999
      int[][] rows = {{9788, 3}, {9789, NONE}, {9988, NONE}, {9989, NONE}, {9999, NONE}};
      for (int[] r : rows) {
        Counted x = Edges.people(2, 1);
        x.text(0, "clap 1000;");
        x.text(2, "at " + r[0] + " deed 0;");
        x.text(3, "hearer 0 beside 1;");
        x.glove(1, true);
        x.evenings(1);
        x.text(1, "hands 2 from 0; most 2; end 9999;");
        String at = " at " + r[0];
        boolean ends = r[0] + 10 >= 9999;
        due("MINUTE", x.look(2), r[0]);
        due("who claps" + at, x.settles(0, 0), 1);
        due("rounds" + at, x.settles(0, 1), 1);
        due("hands" + at, x.settles(0, 2), 2);
        due("gain" + at, x.gain(0), 1);
        due("calm" + at, x.calm(10), 1);
        due("tires" + at, x.tires(0), 50);
        due("once" + at, x.makes(0, 1, 0), ends ? 0 : 1);
        due("brakes" + at, x.brakes(0, 1), ends ? 0 : 1);
        due("three times" + at, x.makes(0, 3, 0), r[0] + 20 >= 9999 ? NONE : 0);
        due("by hand" + at, x.perform(0), r[1]);
      }
    });
  }

  private static void stays(Edges e) {
    List<ToIntFunction<Counted>> thoughts = List.of(x -> x.goes(0), x -> x.goes(1), x -> x.goes(10), x -> x.settles(0, 0),
        x -> x.settles(0, 1), x -> x.settles(0, 2), x -> x.makes(0, 1, 0), x -> x.makes(0, 2, 1), x -> x.makes(0, 5, 1),
        x -> x.brakes(0, 0), x -> x.eager(0, 0), x -> x.gain(0), x -> x.calm(10), x -> x.tires(0), x -> x.price(0, 0));
    e.edge(19, "IN THOUGHT (nothing of it stays; no DRAWS", () -> {
      for (ToIntFunction<Counted> thought : thoughts) {
        Counted x = Edges.people(2, 1);
        x.text(2, "at 0 deed 0;");
        x.text(1, "hands 3 from 0; most 3;");
        x.set(0, 0, 1000);
        thought.applyAsInt(x);
        int[] dues = {2, 1, 0, 0, 0, 1000, NONE, 0, 3, 0, 0};
        for (int what = 0; what < dues.length; what++) due("look " + what, x.look(what), dues[what]);
        due("WEAR, DONE", x.deedOf(0, 3) + x.deedOf(0, 4), 0);
        due("done in earnest, coughed", x.perform(0), 1);
        due("two lines", x.look(9), 2);
        due("three DRAWS", x.look(10), thirdState());
      }
    });
  }

  private static int thirdState() {
    int state = 0;
    for (int i = 0; i < 3; i++) state = state * 1664525 + 1013904223;
    return state;
  }

  private static void goes(Edges e) {
    e.edge(19, "GOES: an EVENING from now: its last MINUTE, COIN then; how often a DEED is done in it.", () -> {
      Counted none = new Counted();
      due("the MINUTE of an empty one", none.goes(0), 0);
      due("the COIN of an empty one", none.goes(1), 0);
      Counted x = new Counted();
      x.deed(9, 10, 1);
      x.deed(0, 10, 0);
      x.text(1, "hands 3 from 1; most 20; end 9999;");
      x.text(2, "at 0 deed 0; at 9000 deed 1; at 300 deed 1;");
      due("below 5 hands", x.goes(10), 1);
      due("COIN", x.goes(1), -1);
      x.evenings(1);
      due("in EVENING 1", x.goes(10), 21);
      due("COIN then", x.goes(1), -22);
      due("twice the other one", x.goes(11), 2);
      due("the last MINUTE", x.goes(0), 9020);
      x.perform(0);
      due("how often in it, not at all", x.goes(10), 21);
      due("COIN of all", x.goes(1), -43);
    });
    e.edge(19, "NONE - 99999 if there is no such DEED, or another what.", () -> {
      Counted x = Edges.people(3, 2);
      for (int what : new int[] {-1, 2, 3, 9, 12, 18, LEAST, GREATEST}) due("what " + what, x.goes(what), FAR);
      due("the last DEED", x.goes(11), 0);
      Counted y = Edges.people(0, 8);
      due("DEED 7", y.goes(17), 0);
      due("DEED 8", y.goes(18), FAR);
      due("without DEEDS", new Counted().goes(10), FAR);
    });
  }

  private static void settles(Edges e) {
    e.edge(20, "SETTLES what 0 the set, 1 rounds, 2 the hands. NONE if there is none such, or another what.", () -> {
      Counted x = Edges.people(2, 2);
      Edges.bounds("what", 0, 2, what -> x.settles(0, what) != NONE);
      for (int d : NO_DEED) due("DEED " + d, x.settles(d, 0), NONE);
      due("the last DEED", x.settles(1, 0), 3);
      Counted y = Edges.people(0, 1);
      due("without HEARERS", y.settles(0, 0), 0);
      due("without HEARERS", y.settles(0, 1), 0);
      due("loud alone", y.settles(0, 2), 1);
      due("without DEEDS", Edges.people(1, 0).settles(0, 0), NONE);
    });
    e.edge(20, "SETTLES of a DEED, done now once by hand (AGAINS as then)", () -> {
      Counted x = new Counted();
      x.deed(9, 60, 0);
      x.text(0, "wears 3; loud agains * 20 + late * 5 + wear;");
      x.text(1, "hands 99 from 0;");
      due("the first time", x.settles(0, 2), 8);
      x.perform(0);
      due("the second time", x.settles(0, 2), 36);
      x.evenings(1);
      due("in another EVENING", x.settles(0, 2), 11);
      x.text(2, "at 9999 deed 0;");
      x.evenings(1);
      due("where it is not done by hand", x.perform(0), NONE);
      x.text(0, "loud late;");
      due("in thought, held to 99", x.settles(0, 2), 99);
    });
  }

  private static void makes(Edges e) {
    e.edge(21, "MAKES of a DEED and k (1 .. 5)", () -> {
      for (int most = 0; most <= 6; most++) {
        Counted x = Edges.people(0, 1);
        x.text(0, "loud 9;");
        x.text(1, "most " + most + ";");
        for (int k = 0; k <= 7; k++) due("most " + most + ", k " + k, x.makes(0, k, 1), k == most + 1 && k <= 5 ? 0 : NONE);
        due("k least", x.makes(0, LEAST, 0), NONE);
        due("k greatest", x.makes(0, GREATEST, 0), NONE);
      }
    });
    e.edge(21, "the fewest of those THERE to be sent away so that, done now by hand, it is done just k times", () -> {
      Counted x = Edges.people(12, 1);
      x.text(0, "clap 1000; loud 0;");
      x.text(1, "hands 1 from 0; most 1;");
      due("all twelve", x.makes(0, 1, 1), 4095);
      due("how many", x.makes(0, 1, 0), 12);
      due("none of them", x.makes(0, 2, 1), 0);
      x.let(0, false);
      x.let(11, false);
      due("those THERE", x.makes(0, 1, 1), 2046);
      x.text(1, "hands 9 from 0; most 1;");
      due("two of ten, the least", x.makes(0, 1, 1), 6);
      due("how many", x.makes(0, 1, 0), 2);
      x.text(1, "hands 10 from 0; most 1;");
      due("one of ten", x.makes(0, 1, 1), 2);
      x.text(1, "hands 11 from 0; most 1;");
      due("it is so", x.makes(0, 1, 1), 0);
      due("it can't be", x.makes(0, 2, 1), NONE);
    });
    e.edge(21, "done now by hand, it is done just k times", () -> {
      // at each time another one claps, and one hand is enough
      Counted x = Edges.people(4, 1);
      x.text(0, "clap 1000 when hearer = agains; clap 0; loud 0;");
      x.text(1, "hands 1 from 0;");
      int[] dues = {1, 2, 4, 8, 0};
      for (int k = 1; k <= 5; k++) due("k " + k, x.makes(0, k, 1), dues[k - 1]);
      // all hands are needed for it, and by all it ends the fifth time
      Counted y = Edges.people(3, 1);
      y.text(0, "clap 1000 when agains < 4; clap 0; loud 0;");
      y.text(1, "hands 3 from 0;");
      due("five times as it is", y.makes(0, 5, 1), 0);
      due("not four times", y.makes(0, 4, 1), NONE);
      due("once", y.makes(0, 1, 1), 1);
      y.text(1, "hands 3 from 0; most 1;");
      due("twice as it is", y.makes(0, 2, 1), 0);
      // in a row by hand already
      y.perform(0);
      due("AGAINS is at most: once", y.makes(0, 1, 1), 0);
      due("not twice", y.makes(0, 2, 1), NONE);
      // what would be loud enough only later does not count
      Counted z = Edges.people(0, 1);
      z.text(0, "loud 5 when agains > 0; loud 4;");
      due("once as it is", z.makes(0, 1, 1), 0);
      due("not twice", z.makes(0, 2, 1), NONE);
    });
    e.edge(21, "MAKES what 0 how many, 1 the set. NONE if by none, one can't be, or another what.", () -> {
      Counted x = Edges.people(2, 2);
      x.text(0, "loud 9;");
      x.text(1, "most 0;");
      Edges.bounds("what", 0, 1, what -> x.makes(0, 1, what) == 0);
      for (int d : NO_DEED) due("DEED " + d, x.makes(d, 1, 0), NONE);
      due("the last DEED", x.makes(1, 1, 0), 0);
      due("by none", x.makes(0, 2, 0), NONE);
      due("by none, the set", x.makes(0, 2, 1), NONE);
      due("without DEEDS", Edges.people(1, 0).makes(0, 1, 0), NONE);
    });
    e.edge(21, "how many; the set (of several the least).", () -> {
      // 2 or 3 would do as well as 1; 0 has no hands
      Counted x = new Counted();
      for (int i = 0; i < 4; i++) x.hearer(i == 0 ? 0 : 1, 9, 0);
      x.deed(0, 1, 0);
      x.text(1, "hands 3 from 0; most 1;");
      due("the least of three", x.makes(0, 1, 1), 2);
      due("one", x.makes(0, 1, 0), 1);
      x.text(1, "hands 2 from 0; most 1;");
      due("the least of three pairs", x.makes(0, 1, 1), 6);
      // one who makes the others clap is fewer than they
      Counted y = Edges.people(4, 1);
      y.text(3, "hearer 3 beside 0; hearer 3 beside 1; hearer 3 beside 2;");
      y.text(0, "clap 1000 when hearer = 3 or beside = 1; clap 0; loud 0;");
      y.text(1, "hands 2 from 0; most 1;");
      due("3 alone, not two of three", y.makes(0, 1, 1), 8);
    });
  }

  // ==== the order of DEEDS ====

  private static void fills(Edges e) {
    e.edge(22, "FILLS of m (1 .. 999) minutes", () -> {
      Counted x = new Counted();
      x.deed(1, 1, 0);
      Edges.bounds("m", 1, 999, m -> x.fills(m, 0) == 1 && x.fills(m, 1) == 1);
    });
    e.edge(22, "of DEEDS, each once at most, with LONG of m together at most, the most WORTH together", () -> {
      Counted x = new Counted();
      for (int i = 0; i < 8; i++) x.deed(9, 60, 0);
      due("59", x.fills(59, 0), 0);
      due("60", x.fills(60, 0), 9);
      due("119", x.fills(119, 1), 1);
      due("120", x.fills(120, 1), 3);
      due("479", x.fills(479, 1), 127);
      due("480", x.fills(480, 1), 255);
      due("no more than once", x.fills(999, 0), 72);
    });
    e.edge(22, "that; the set (of several the least)", () -> {
      Counted x = new Counted();
      x.deed(0, 1, 0);
      x.deed(4, 10, 0);
      x.deed(2, 10, 0);
      x.deed(2, 10, 0);
      x.deed(4, 20, 0);
      due("WORTH 0 fills nothing", x.fills(9, 1), 0);
      due("4", x.fills(19, 1), 2);
      due("6", x.fills(29, 1), 6);
      due("8 by three of them, not by 1 and 4", x.fills(30, 1), 14);
    });
    e.edge(22, "FILLS what 0 WORTH, 1 the set. NONE if m can't be, or another what.", () -> {
      Counted x = new Counted();
      due("without DEEDS", x.fills(1, 0), 0);
      due("without DEEDS", x.fills(999, 1), 0);
      Edges.bounds("what", 0, 1, what -> x.fills(1, what) == 0);
    });
  }

  private static void lines(Edges e) {
    e.edge(23, "LINES what 0 the sum, 1 the first DEED (NONE: no DEEDS). NONE if the set has other bits, or for another what.", () -> {
      Counted x = Edges.people(0, 8);
      due("no DEEDS", x.lines(0, 0), 0);
      due("no DEEDS", x.lines(0, 1), NONE);
      due("all", x.lines(255, 0), 3 * 10 * 36);
      due("the last one", x.lines(128, 1), 7);
      for (int d = 0; d < 8; d++) due("one alone", x.lines(1 << d, 0) * 10 + x.lines(1 << d, 1), 300 + d);
      for (int set : new int[] {256, -1, 511, 1 << 30, LEAST, GREATEST}) {
        due("set " + set, x.lines(set, 0), NONE);
        due("set " + set, x.lines(set, 1), NONE);
      }
      Edges.bounds("what", 0, 1, what -> x.lines(255, what) != NONE);
      Counted y = new Counted();
      due("an empty PROGRAMME", y.lines(0, 0), 0);
      due("an empty PROGRAMME", y.lines(0, 1), NONE);
      due("without DEEDS", y.lines(1, 0), NONE);
      Counted z = Edges.people(4, 3);
      due("those there are", z.lines(7, 0), 180);
      due("one more", z.lines(8, 0), NONE);
    });
    e.edge(23, "the first DEED (of several orders that with the lesser number ahead)", () -> {
      Counted x = new Counted();
      x.deed(0, 1, 0);
      x.deed(1, 20, 0);
      x.deed(3, 60, 0);
      x.deed(2, 40, 0);
      x.deed(0, 60, 0);
      due("all alike by the minute", x.lines(14, 1), 1);
      due("3 * 60 and 2 * 100", x.lines(12, 0), 380);
      due("or 2 * 40 and 3 * 100", x.lines(12, 1), 2);
      due("without WORTH", x.lines(17, 1), 0);
      due("the last without WORTH", x.lines(16, 1), 4);
      due("WORTH first", x.lines(19, 1), 1);
      due("nothing for those without", x.lines(19, 0), 20);
    });
  }

  // ==== who was paid ====

  private static void claques(Edges e) {
    e.edge(24, "CLAQUE, up to 8 told", () -> {
      Counted x = Edges.people(3, 0);
      for (int i = 1; i <= 8; i++) due("told", x.claque(i & 7, 0), i);
      due("a ninth", x.claque(1, 0), NONE);
      due("eight", x.look(15), 8);
      due("none", x.claque(NONE, 0), 0);
      due("told again", x.claque(1, 0), 1);
    });
    e.edge(24, "a set of HEARERS of whom so many (0 .. 12) were paid", () -> {
      Edges.bounds("so many", 0, 12, many -> Edges.people(12, 0).claque(4095, many) == 1);
      Edges.bounds("so many of one", 0, 12, many -> Edges.people(1, 0).claque(1, many) == 1);
      for (int set : new int[] {0, 1, 7}) due("the set " + set, Edges.people(3, 0).claque(set, 0), 1);
      for (int set : new int[] {8, 9, -2, 1 << 30, LEAST, GREATEST}) due("the set " + set, Edges.people(3, 0).claque(set, 0), NONE);
      due("all of twelve", Edges.people(12, 0).claque(4095, 0), 1);
      due("more than twelve", Edges.people(12, 0).claque(4096, 0), NONE);
      due("without HEARERS", new Counted().claque(1, 0), NONE);
      due("the empty set without HEARERS", new Counted().claque(0, 0), 1);
    });
    e.edge(24, "CLAQUE is told (hearers NONE: nothing is then): how many; NONE if one can't be, or there are eight.", () -> {
      Counted x = Edges.people(3, 0);
      due("none of none", x.claque(NONE, 0), 0);
      x.claque(7, 1);
      due("none of one", x.claque(NONE, 0), 0);
      due("told", x.look(15), 0);
      due("all sets", x.fits(0), 8);
      for (int many : new int[] {-1, 1, 12, 13, LEAST, GREATEST}) {
        for (int i = 1; i <= 8; i++) due("told", x.claque(7, 2), i);
        due("none, whatever so many is: " + many, x.claque(NONE, many), 0);
        due("told", x.look(15), 0);
        due("all sets again", x.fits(0), 8);
      }
    });
  }

  private static void fits(Edges e) {
    e.edge(25, "FITS: sets of HEARERS (all there are) that could be the paid ones: how many; the least; the greatest.", () -> {
      Counted none = new Counted();
      due("without HEARERS", none.fits(0), 1);
      due("the empty set", none.fits(1), 0);
      due("the empty set", none.fits(2), 0);
      Counted x = Edges.people(12, 0);
      due("all of twelve", x.fits(0), 4096);
      due("the least", x.fits(1), 0);
      due("the greatest", x.fits(2), 4095);
      x.claque(4095, 12);
      due("all", x.fits(0), 1);
      due("all", x.fits(1), 4095);
      x.claque(NONE, 0);
      x.claque(4095, 0);
      due("nobody", x.fits(2), 0);
      x.claque(NONE, 0);
      x.claque(4095, 6);
      due("half", x.fits(0), 924);
      due("the least half", x.fits(1), 63);
      due("the greatest half", x.fits(2), 4032);
      x.let(3, false);
      due("THERE or not", x.fits(0), 924);
      Counted y = Edges.people(2, 0);
      y.claque(3, 1);
      due("one of two", y.fits(0), 2);
      y.hearer(0, 0, 0);
      due("with a third told later", y.fits(0), 4);
    });
    e.edge(25, "FITS what 0 how many, 1 the least, 2 the greatest, 3 ASK (NONE: fewer than two). NONE if none (1, 2), or for another what.", () -> {
      Counted x = Edges.people(2, 0);
      x.claque(3, 2);
      due("one", x.fits(0), 1);
      due("nobody to ask", x.fits(3), NONE);
      x.claque(NONE, 0);
      x.claque(2, 1);
      due("two", x.fits(0), 2);
      due("0 tells them apart", x.fits(3), 0);
      x.claque(2, 0);
      due("none", x.fits(0), 0);
      due("the least of none", x.fits(1), NONE);
      due("the greatest of none", x.fits(2), NONE);
      due("nobody to ask", x.fits(3), NONE);
      Edges.bounds("what", 0, 3, what -> Edges.people(2, 0).fits(what) != NONE);
      due("without HEARERS", new Counted().fits(3), NONE);
      Counted y = Edges.people(2, 0);
      y.claque(3, 3);
      due("three of two", y.fits(0), 0);
    });
    e.edge(25, "ASK: the HEARER for whom the greater number of those sets with him and those without is least (of several the least).", () -> {
      Counted x = Edges.people(3, 0);
      due("all alike", x.fits(3), 0);
      x.claque(1, 0);
      due("0 is known", x.fits(3), 1);
      x.claque(2, 1);
      due("1 is known, too", x.fits(3), 2);
      Counted y = Edges.people(4, 0);
      y.claque(15, 1);
      due("one of four: 3 without each", y.fits(3), 0);
      y.claque(NONE, 0);
      y.claque(7, 1);
      due("2 of 6 with each of them, 3 of 6 with 3", y.fits(3), 3);
      Counted z = Edges.people(4, 0);
      z.claque(7, 2);
      due("4 of 6 with each of them, 3 of 6 with 3", z.fits(3), 3);
    });
  }

  // ==== who sits beside whom ====

  private static void cuts(Edges e) {
    e.edge(26, "the fewest other ones to be given gloves so that no clapping goes from a to b along GALLERY", () -> {
      Counted x = Edges.people(12, 0);
      StringBuilder wide = new StringBuilder();
      for (int h = 1; h <= 8; h++) wide.append("hearer 0 beside ").append(h).append(";hearer 11 beside ").append(h).append(';');
      due("lines", x.text(3, wide.toString()), 16);
      due("eight ways", x.cuts(0, 11, 0), 8);
      due("eight ways", x.cuts(11, 0, 1), 510);
      due("nowhere along", x.cuts(0, 10, 0), 0);
      due("nowhere along", x.cuts(0, 10, 1), 0);
      x.text(3, Edges.row(12));
      due("of several the least", x.cuts(0, 11, 1), 2);
      due("of several the least", x.cuts(11, 9, 1), 1024);
      due("one", x.cuts(0, 11, 0), 1);
      x.text(3, "hearer 0 beside 1; hearer 0 beside 2; hearer 1 beside 3; hearer 2 beside 3; hearer 3 beside 4;");
      due("one behind two", x.cuts(0, 4, 1), 8);
      x.text(3, "");
      due("an empty GALLERY", x.cuts(0, 11, 0), 0);
    });
    e.edge(26, "(other ones that have GLOVES stop it already, a, b do not; THERE or not; beside one another: NONE)", () -> {
      Counted x = Edges.people(4, 0);
      x.text(3, "hearer 0 beside 1; hearer 1 beside 3; hearer 0 beside 2; hearer 2 beside 3;");
      due("two", x.cuts(0, 3, 1), 6);
      x.glove(0, true);
      x.glove(3, true);
      due("theirs do not", x.cuts(0, 3, 1), 6);
      x.let(0, false);
      x.let(1, false);
      x.let(3, false);
      due("THERE or not", x.cuts(0, 3, 1), 6);
      x.glove(2, true);
      due("one stops it already", x.cuts(0, 3, 1), 2);
      x.glove(1, true);
      due("both stop it", x.cuts(0, 3, 1), 0);
      due("both stop it", x.cuts(0, 3, 0), 0);
      due("beside one another", x.cuts(0, 1, 0), NONE);
      due("beside one another", x.cuts(1, 0, 1), NONE);
    });
    e.edge(26, "CUTS what 0 how many, 1 the set. NONE if they are beside one another or alike, there is none such, or another what.", () -> {
      Counted x = Edges.people(3, 0);
      due("alike", x.cuts(1, 1, 0), NONE);
      due("alike", x.cuts(1, 1, 1), NONE);
      Edges.bounds("a", 0, 1, a -> x.cuts(a, 2, 0) == 0);
      Edges.bounds("b", 0, 1, b -> x.cuts(2, b, 1) == 0);
      due("none such", x.cuts(0, 3, 0), NONE);
      due("none such", x.cuts(3, 0, 0), NONE);
      due("neither", x.cuts(3, 4, 0), NONE);
      Edges.bounds("what", 0, 1, what -> x.cuts(0, 2, what) == 0);
      due("without HEARERS", new Counted().cuts(0, 1, 0), NONE);
    });
  }

  private static void near(Edges e) {
    e.edge(27, "NEAR of a HEARER within n (0 .. 12) steps along GALLERY: a set.", () -> {
      Counted x = Edges.people(12, 0);
      x.text(3, Edges.row(12));
      Edges.bounds("n", 0, 12, n -> x.near(0, n) != NONE);
      due("0 steps", x.near(5, 0), 32);
      due("1 step", x.near(5, 1), 112);
      due("2 steps", x.near(5, 2), 248);
      due("10 steps", x.near(0, 10), 2047);
      due("11 steps", x.near(0, 11), 4095);
      due("12 steps", x.near(0, 12), 4095);
      due("from the last one", x.near(11, 10), 4094);
      due("to the first one", x.near(11, 11), 4095);
      x.glove(1, true);
      x.let(1, false);
      due("over one away, with GLOVES", x.near(0, 2), 7);
    });
    e.edge(27, "NEAR, as a set (himself in it); NONE if one can't be.", () -> {
      Counted x = Edges.people(3, 0);
      due("alone", x.near(2, 12), 4);
      Edges.bounds("HEARER of three", 0, 2, h -> x.near(h, 1) == 1 << h);
      due("without HEARERS", new Counted().near(0, 0), NONE);
    });
  }

  // ==== what a law means ====

  private static void means(Edges e) {
    e.edge(28, "MEANS: v passed again means w: true; false if one can't be.", () -> {
      Edges.bounds("v", 0, 9, v -> {
        Counted x = new Counted();
        return x.means(v, 3) && x.passed(v, 1, 0) == 3;
      });
      Edges.bounds("w", 0, 9, w -> {
        Counted x = new Counted();
        return x.means(4, w) && x.passed(4, 1, 0) == w;
      });
    });
    e.edge(28, "ten told numbers 0 .. 9: what a law means once it was passed again (at first each itself)", () -> {
      Counted x = new Counted();
      for (int v = 0; v <= 9; v++) {
        due("once", x.passed(v, 1, 0), v);
        due("behind how many times", x.passed(v, 1, 1), 1);
        due("how many times between", x.passed(v, 1, 2), 1);
      }
    });
    e.edge(29, "PASSED v (0 .. 9) n (0 .. 9999) times: what it means", () -> {
      Counted x = new Counted();
      for (int v = 0; v < 10; v++) x.means(v, (v + 1) % 10);
      Edges.bounds("v", 0, 9, v -> x.passed(v, 10, 0) != NONE);
      Edges.bounds("v", 0, 9, v -> x.passed(v, 10, 1) == 10);
      Edges.bounds("v", 0, 9, v -> x.passed(v, 10, 2) == 10);
      Edges.bounds("n", 0, 9999, n -> x.passed(3, n, 0) == (3 + n) % 10);
    });
    e.edge(29, "behind how many times first something comes that was there; how many times lie between", () -> {
      Counted x = new Counted();
      for (int v = 0; v < 9; v++) x.means(v, v + 1);
      due("nine ahead of one that stays", x.passed(0, 0, 1), 10);
      due("it stays", x.passed(0, 0, 2), 1);
      due("that one", x.passed(9, 0, 1), 1);
      x.means(9, 5);
      due("five ahead of five", x.passed(0, 0, 1), 10);
      due("five", x.passed(0, 0, 2), 5);
      x.means(9, 0);
      due("all ten", x.passed(0, 0, 1), 10);
      due("all ten", x.passed(0, 0, 2), 10);
      x.means(2, 0);
      due("three", x.passed(0, 0, 1), 3);
      due("three", x.passed(1, 0, 2), 3);
      x.means(2, 1);
      due("one ahead of two", x.passed(0, 0, 1), 3);
      due("two", x.passed(0, 0, 2), 2);
      due("two ahead of two: 9, 0", x.passed(9, 0, 1), 4);
    });
    e.edge(29, "(n not asked: 1, 2). NONE if one can't be, or another what.", () -> {
      Counted x = new Counted();
      for (int n : new int[] {-1, 10000, LEAST, GREATEST}) {
        due("n " + n, x.passed(0, n, 0), NONE);
        due("n " + n + " not asked", x.passed(0, n, 1), 1);
        due("n " + n + " not asked", x.passed(0, n, 2), 1);
      }
      Edges.bounds("what", 0, 2, what -> x.passed(1, 0, what) == 1);
    });
  }

  // ==== shares, couples, games ====

  private static void shares(Edges e) {
    e.edge(30, "SHARES of n (0 .. 9999)", () -> {
      Counted x = Edges.people(1, 0);
      Edges.bounds("n", 0, 9999, n -> n != NONE && x.share(n, 0) == n);
    });
    e.edge(30, "among those THERE by LIKES and 1: downwards; what is left one by one to those with the greatest rests (of several the least)", () -> {
      Counted x = new Counted();
      x.hearer(0, 0, 0);
      x.hearer(0, 9, 0);
      x.hearer(0, 0, 0);
      // parts of 12: of 4 the rests are 4, 4, 4 and one is left; of 6 they are 6, 0, 6; of 8 they are 8, 8, 8, two left
      int[][] dues = {{0, 0, 0}, {0, 1, 0}, {0, 2, 0}, {0, 3, 0}, {1, 3, 0}, {1, 4, 0}, {1, 5, 0}, {1, 6, 0}, {1, 7, 0},
        {1, 7, 1}, {1, 8, 1}, {1, 9, 1}, {1, 10, 1}, {1, 11, 1}};
      for (int n = 0; n < dues.length; n++)
        for (int h = 0; h < 3; h++) due("of " + n + " to " + h, x.share(n, h), dues[n][h]);
      x.let(1, false);
      due("of those THERE", x.share(9, 0) * 10 + x.share(9, 2), 54);
      x.let(0, false);
      due("one THERE, with LIKES 0", x.share(9, 2), 9);
      due("one away", x.share(9, 0), 0);
    });
    e.edge(30, "SHARES: what a HEARER bears (not THERE: 0); NONE if one can't be, or nobody is THERE.", () -> {
      Counted x = Edges.people(3, 0);
      Edges.bounds("HEARER", 0, 2, h -> x.share(3, h) == 1);
      x.let(1, false);
      due("not THERE", x.share(9999, 1), 0);
      due("not THERE, one that can't be", x.share(10000, 1), NONE);
      x.let(0, false);
      due("the last one THERE bears all", x.share(9999, 2), 9999);
      x.let(2, false);
      for (int h = 0; h < 3; h++) due("nobody THERE", x.share(3, h), NONE);
      due("nothing of nobody", x.share(0, 0), NONE);
      due("without HEARERS", new Counted().share(0, 0), NONE);
    });
  }

  private static void brides(Edges e) {
    e.edge(31, "couples of one with PAID above 0 and one with 0, all of the lesser number having one", () -> {
      int[] dues = {1, 11, 90, 504, 1680, 2520, 720, 2520, 1680, 504, 90, 11, 1};
      for (int paid = 0; paid <= 12; paid++) {
        Counted x = Edges.people(12, 0);
        for (int h = 0; h < paid; h++) x.pay(h, h == 0 ? 1 : 99);
        due(paid + " of twelve", x.brides(), dues[paid]);
      }
      due("without HEARERS", new Counted().brides(), 1);
      Counted y = Edges.people(3, 0);
      y.pay(0, 1);
      due("one and two", y.brides(), 2);
      y.let(1, false);
      due("one of them is away", y.brides(), 1);
      y.let(1, true);
      y.let(0, false);
      due("the paid one is away", y.brides(), 1);
    });
  }

  private static void games(Edges e) {
    e.edge(32, "GAME: from LONG of DEEDS two by turns take 1, 3 or 4 minutes of one; who takes the last one of all wins", () -> {
      for (int n = 1; n <= 60; n++) {
        Counted x = new Counted();
        x.deed(0, n, 0);
        // of 7 and 7 more 0 and 2 are lost; from 1, 3 one is taken, from 5 three, from 4 and 6 four
        int[] takes = {NONE, 1, NONE, 1, 4, 3, 4};
        due("of " + n, x.game(1), takes[n % 7]);
        due("of " + n, x.game(0), takes[n % 7] == NONE ? NONE : 0);
      }
    });
    e.edge(32, "the DEED (of several the least), how many (the fewest) who begins well takes", () -> {
      int[][] rows = {{2, 2, 1, 0, 1}, {1, 1, 1, 0, 1}, {2, 1, 2, 0, 1}, {3, 4, 2, 1, 1}, {4, 4, 3, 2, 1}, {5, 2, 7, 0, 3},
        {4, 6, 2, NONE, NONE}, {5, 4, 1, NONE, NONE}, {5, 6, 3, NONE, NONE}, {11, 13, 7, NONE, NONE}, {12, 20, 8, NONE, NONE},
        {4, 6, 1, 1, 1}, {6, 5, 1, NONE, NONE}, {6, 5, 3, NONE, NONE}, {6, 6, 5, 0, 3}};
      for (int[] r : rows) {
        Counted x = new Counted();
        for (int i = 0; i < 3; i++) x.deed(0, r[i], 0);
        due("of " + r[0] + ", " + r[1] + ", " + r[2], x.game(0), r[3]);
        due("how many of it", x.game(1), r[4]);
      }
      Counted y = new Counted();
      for (int i = 0; i < 8; i++) y.deed(0, 60, 0);
      due("eight alike are lost", y.game(0), NONE);
      Counted z = new Counted();
      for (int i = 0; i < 8; i++) z.deed(0, i < 7 ? 2 : 60, 0);
      due("the last one", z.game(0), 7);
      due("down to 56", z.game(1), 4);
    });
    e.edge(32, "GAME what 0 the DEED, 1 how many. NONE if who begins loses, or for another what.", () -> {
      Counted x = Edges.people(0, 1);
      Edges.bounds("what", 0, 1, what -> x.game(what) != NONE);
      due("without DEEDS", new Counted().game(0), NONE);
      due("without DEEDS", new Counted().game(1), NONE);
      Counted y = Edges.people(0, 2);
      due("two alike", y.game(0), NONE);
      due("two alike", y.game(1), NONE);
    });
  }

  // ==== gloves, prices ====

  private static void brakes(Edges e) {
    e.edge(33, "BRAKES of a DEED: the fewest of those THERE without GLOVES to be given some so that, done now by hand, it is done once", () -> {
      Counted x = Edges.people(12, 1);
      x.text(0, "clap 1000; loud 0;");
      x.text(1, "hands 1 from 0;");
      due("all twelve", x.brakes(0, 1), 4095);
      due("how many", x.brakes(0, 0), 12);
      x.glove(0, true);
      due("those without", x.brakes(0, 1), 4094);
      x.let(11, false);
      due("those THERE", x.brakes(0, 1), 2046);
      x.text(1, "hands 10 from 0;");
      due("of several the least", x.brakes(0, 1), 2);
      x.text(1, "hands 11 from 0;");
      due("it is so", x.brakes(0, 1), 0);
      x.text(1, "hands 1 from 0; most 0;");
      due("it is so", x.brakes(0, 0), 0);
      x.text(1, "hands 1 from 0; end 10;");
      due("it is so", x.brakes(0, 0), 0);
      x.text(1, "hands 1 from 0; end 11;");
      due("one minute more", x.brakes(0, 0), 10);
    });
    e.edge(33, "BRAKES what 0 how many, 1 the set. NONE if by none, there is no such DEED, or another what.", () -> {
      Counted x = Edges.people(3, 2);
      due("it is so", x.brakes(1, 0), 0);
      for (int d : NO_DEED) due("DEED " + d, x.brakes(d, 0), NONE);
      Edges.bounds("what", 0, 1, what -> x.brakes(0, what) == 0);
      x.text(0, "loud 5;");
      due("by none", x.brakes(0, 0), NONE);
      due("by none, the set", x.brakes(0, 1), NONE);
      x.text(0, "loud 4; clap 0;");
      due("one hand less", x.brakes(0, 0), 0);
      due("without DEEDS", Edges.people(1, 0).brakes(0, 0), NONE);
      due("without HEARERS", Edges.people(0, 1).brakes(0, 1), 0);
    });
  }

  private static void eager(Edges e) {
    e.edge(34, "whose clap at a DEED (nobody beside him clapping yet) is greatest (of several the least); that.", () -> {
      Counted x = Edges.people(4, 1);
      x.text(3, Edges.row(4));
      x.text(0, "clap beside * 100 + 7;");
      due("the least of four", x.eager(0, 0), 0);
      due("that", x.eager(0, 1), 7);
      x.text(0, "clap hearer * 300;");
      due("the last", x.eager(0, 0), 3);
      due("that", x.eager(0, 1), 900);
      x.text(0, "clap hearer * 999;");
      due("the least of those held to 1000", x.eager(0, 0), 2);
      due("that", x.eager(0, 1), 1000);
      x.text(0, "clap 0;");
      due("the least of those at 0", x.eager(0, 0), 0);
      due("that", x.eager(0, 1), 0);
    });
    e.edge(34, "EAGER what 0 the HEARER, 1 how much. NONE if nobody, there is no such DEED, or another what.", () -> {
      Counted x = Edges.people(3, 2);
      Edges.bounds("what", 0, 1, what -> x.eager(1, what) != NONE);
      for (int d : NO_DEED) due("DEED " + d, x.eager(d, 0), NONE);
      x.glove(0, true);
      due("without GLOVES", x.eager(0, 0), 1);
      x.let(1, false);
      due("THERE", x.eager(0, 0), 2);
      x.glove(2, true);
      due("nobody", x.eager(0, 0), NONE);
      due("nobody", x.eager(0, 1), NONE);
      due("without HEARERS", Edges.people(0, 1).eager(0, 1), NONE);
      due("without DEEDS", Edges.people(1, 0).eager(0, 0), NONE);
    });
  }

  private static void groups(Edges e) {
    e.edge(35, "how many; the greatest one (a set; of several that with the least HEARER)", () -> {
      Counted x = Edges.people(12, 0);
      due("each alone", x.groups(0), 12);
      due("the least", x.groups(1), 1);
      x.text(3, "hearer 11 beside 10; hearer 9 beside 8;");
      due("two of two", x.groups(0), 10);
      due("that with the least", x.groups(1), 768);
      x.text(3, "hearer 11 beside 10; hearer 9 beside 8; hearer 7 beside 11;");
      due("one of three", x.groups(1), 3200);
      x.text(3, "hearer 0 beside 3; hearer 1 beside 4; hearer 2 beside 5; hearer 6 beside 4;");
      due("with others between them", x.groups(0), 8);
      due("1, 4 and 6", x.groups(1), 82);
      x.text(3, Edges.row(12));
      due("all in one", x.groups(0), 1);
      due("all in one", x.groups(1), 4095);
      x.let(5, false);
      x.glove(6, true);
      due("of all HEARERS", x.groups(1), 4095);
    });
    e.edge(35, "GROUPS what 0 how many, 1 the set. NONE for another what. (Without HEARERS: 0, the empty set.)", () -> {
      due("without HEARERS", new Counted().groups(0), 0);
      due("without HEARERS", new Counted().groups(1), 0);
      Edges.bounds("what", 0, 1, what -> new Counted().groups(what) == 0);
      due("one", Edges.people(1, 0).groups(0), 1);
      due("one", Edges.people(1, 0).groups(1), 1);
    });
  }

  private static void prices(Edges e) {
    e.edge(36, "the fewest more to be PAID (0 .. 99 less PAID) so that clap (nobody beside him clapping yet) is above 500", () -> {
      int[][] rows = {{501, 0, 0}, {500, 0, 1}, {499, 0, 2}, {402, 0, 99}, {401, 0, NONE}, {402, 98, 1}, {401, 98, NONE},
        {402, 99, 0}, {401, 99, NONE}, {410, 90, 1}, {403, 90, 8}, {402, 90, 9}, {401, 90, NONE}};
      for (int[] r : rows) {
        Counted x = Edges.people(2, 1);
        x.text(3, "hearer 0 beside 1;");
        x.text(0, "clap " + r[0] + " + paid + beside * 99;");
        if (r[1] > 0) x.pay(0, r[1]);
        due("from " + r[0] + ", PAID " + r[1], x.price(0, 0), r[2]);
        due("PAID stays", x.of(0, 5), r[1]);
      }
      Counted y = Edges.people(1, 1);
      y.text(0, "clap 600 when paid = 50 or paid = 40; clap 0;");
      due("the fewest", y.price(0, 0), 40);
      y.pay(0, 41);
      due("50", y.price(0, 0), 9);
      y.pay(0, 10);
      due("none", y.price(0, 0), NONE);
      y.glove(0, true);
      y.let(0, false);
      y.text(0, "clap 501;");
      due("THERE or not, with GLOVES or not", y.price(0, 0), 0);
    });
    e.edge(36, "PRICE; NONE if none does, or there is none such.", () -> {
      Counted x = Edges.people(3, 2);
      Edges.bounds("HEARER", 0, 2, h -> x.price(h, 1) == 0);
      for (int d : NO_DEED) due("DEED " + d, x.price(0, d), NONE);
      x.text(0, "clap 500;");
      due("none does", x.price(0, 0), NONE);
      due("without HEARERS", Edges.people(0, 1).price(0, 0), NONE);
      due("without DEEDS", Edges.people(1, 0).price(0, 0), NONE);
    });
  }

  private static void gains(Edges e) {
    e.edge(37, "HEARERS beside one another (couples) of whom just one claps, once it SETTLES: how many", () -> {
      Counted x = Edges.people(3, 1);
      x.text(3, "hearer 0 beside 1; hearer 1 beside 0; hearer 1 beside 2; hearer 2 beside 0;");
      int[] dues = {0, 2, 2, 2, 2, 2, 2, 0};
      String[] who = {"1=2", "hearer=0", "hearer=1", "hearer<2", "hearer=2", "not hearer=1", "hearer>0", "1=1"};
      for (int set = 0; set < 8; set++) {
        x.text(0, "clap 1000 when " + who[set] + "; clap 0;");
        due("when " + who[set], x.gain(0), dues[set]);
        due("those", x.settles(0, 0), set);
      }
      x.let(1, false);
      x.glove(2, true);
      due("one away, one with GLOVES", x.gain(0), 2);
      x.text(3, "");
      due("an empty GALLERY", x.gain(0), 0);
    });
    e.edge(37, "GAIN; NONE if there is no such DEED.", () -> {
      Counted x = Edges.people(3, 2);
      due("the last DEED", x.gain(1), 0);
      for (int d : NO_DEED) due("DEED " + d, x.gain(d), NONE);
      due("without HEARERS", Edges.people(0, 1).gain(0), 0);
      due("without DEEDS", Edges.people(1, 0).gain(0), NONE);
    });
  }

  private static void bargains(Edges e) {
    e.edge(38, "BARGAIN: the DEED with most WORTH for its LONG (compared exactly; of several the least); WORTH times 60 by LONG of it.", () -> {
      int[][] rows = {{0, 1, 0, 60, 0, 0}, {0, 60, 1, 60, 1, 1}, {1, 60, 1, 59, 1, 1}, {3, 30, 2, 20, 0, 6}, {2, 20, 3, 30, 0, 6},
        {8, 59, 8, 58, 1, 8}, {9, 1, 9, 2, 0, 540}, {7, 60, 6, 51, 1, 7}, {6, 52, 7, 60, 1, 7}, {7, 60, 7, 60, 0, 7}};
      for (int[] r : rows) {
        Counted x = new Counted();
        x.deed(r[0], r[1], 0);
        x.deed(r[2], r[3], 0);
        String both = r[0] + " by " + r[1] + ", " + r[2] + " by " + r[3];
        due(both, x.bargain(0), r[4]);
        due(both, x.bargain(1), r[5]);
      }
    });
    e.edge(38, "BARGAIN what 0 the DEED, 1 how much. NONE without DEEDS, or for another what.", () -> {
      due("without DEEDS", new Counted().bargain(0), NONE);
      due("without DEEDS", new Counted().bargain(1), NONE);
      Edges.bounds("what", 0, 1, what -> Edges.people(0, 8).bargain(what) != NONE);
    });
  }

  private static void calms(Edges e) {
    e.edge(39, "of those THERE the one with the greatest MANNERS (of several the least); MANNERS of all THERE together", () -> {
      Counted x = new Counted();
      int[] manners = {0, 9, 9, 3};
      for (int m : manners) x.hearer(1, 9, m);
      due("the least of two", x.calm(0), 1);
      due("together", x.calm(1), 21);
      x.let(1, false);
      due("the other one", x.calm(0), 2);
      due("together", x.calm(1), 12);
      x.let(2, false);
      x.let(3, false);
      due("one without any", x.calm(0), 0);
      due("together", x.calm(1), 0);
    });
    e.edge(39, "CALM what 0 the HEARER (NONE: nobody), 1 the sum, 10 + d how many do not clap at DEED d. NONE for another what.", () -> {
      Counted x = Edges.people(2, 2);
      due("who claps", x.calm(11), 0);
      for (int what : new int[] {-1, 2, 9, 12, 18, LEAST, GREATEST}) due("what " + what, x.calm(what), NONE);
      x.glove(0, true);
      due("one with GLOVES", x.calm(10), 1);
      x.let(0, false);
      due("one away", x.calm(10), 0);
      x.let(1, false);
      due("nobody", x.calm(0), NONE);
      due("nobody", x.calm(1), 0);
      due("nobody", x.calm(10), 0);
      x.let(0, true);
      x.let(1, true);
      x.glove(0, false);
      x.set(4, 1, 9);
      x.text(0, "clap 1000 when worth = 9; clap 1000 when hearer = 0; clap 0;");
      due("at DEED 0 one does not", x.calm(10), 1);
      due("at DEED 1 both do", x.calm(11), 0);
      Counted y = Edges.people(0, 8);
      due("DEED 7", y.calm(17), 0);
      due("DEED 8", y.calm(18), NONE);
      due("without HEARERS", y.calm(0), NONE);
      due("without DEEDS", Edges.people(1, 0).calm(10), NONE);
    });
  }

  private static void tires(Edges e) {
    e.edge(40, "behind how many times (0 .. 99) its WEAR is 99", () -> {
      int[][] rows = {{99, 0, 0}, {98, 1, 1}, {98, 99, 1}, {0, 1, 99}, {1, 1, 98}, {0, 2, 50}, {1, 2, 49}, {0, 98, 2}, {0, 99, 1},
        {0, 0, NONE}, {98, 0, NONE}, {99, 9, 0}};
      for (int[] r : rows) {
        Counted x = Edges.people(0, 1);
        x.text(0, "wears " + r[1] + ";");
        x.set(5, 0, r[0]);
        due("WEAR " + r[0] + ", wears " + r[1], x.tires(0), r[2]);
        due("nothing stays", x.deedOf(0, 3), r[0]);
      }
    });
    e.edge(40, "TIRES; NONE if not by 99 times, or there is no such DEED.", () -> {
      // the first time is not again, so that 98 are behind 99 times
      Counted x = Edges.people(0, 2);
      x.text(0, "wears 1 when agains > 0; wears 0;");
      due("the 100th time", x.tires(0), NONE);
      x.set(5, 0, 1);
      due("the 99th time", x.tires(0), 99);
      for (int d : NO_DEED) due("DEED " + d, x.tires(d), NONE);
      due("the last DEED", x.tires(1), NONE);
      due("without DEEDS", new Counted().tires(0), NONE);
    });
    e.edge(40, "done by hand again and again, once each time whatever the hands are", () -> {
      Counted x = new Counted();
      x.deed(9, 60, 0);
      x.text(0, "loud 99; wears 9 when agains < 10 and late < 10; wears 99;");
      x.text(1, "hands 1 from 0; most 20;");
      due("ten times 9, then 99", x.tires(0), 11);
      due("nothing stays", x.look(2) + x.look(9) + x.look(7) + x.deedOf(0, 4), 0);
      Counted y = Edges.people(0, 1);
      y.text(2, "at 9999 deed 0;");
      y.evenings(1);
      due("not done by hand", y.perform(0), NONE);
      due("in thought", y.tires(0), 50);
    });
  }
}
