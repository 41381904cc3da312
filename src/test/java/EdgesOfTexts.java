/** The edges that section 2 of the document's Terms names: tokens, FAULTS, lines, what THE LAW and the others tell. */
final class EdgesOfTexts {
  private static final int NONE = Edges.NONE;

  private EdgesOfTexts() {
  }

  private static void due(String what, int got, int due) {
    Edges.due(what, got, due);
  }

  private static void due(String what, boolean got, boolean due) {
    Edges.due(what, got, due);
  }

  private static void reads(int k, String text, int lines) {
    Edges.reads(three(), k, text, lines);
  }

  private static void fails(int k, String text, int fault, int place) {
    Edges.fails(three(), k, text, fault, place);
  }

  /** Three HEARERS and two DEEDS, and a line of each text. */
  private static Counted three() {
    Counted x = new Counted();
    x.hearer(2, 9, 1);
    x.hearer(3, 4, 2);
    x.hearer(1, 6, 3);
    x.deed(9, 10, 5);
    x.deed(3, 20, 1);
    x.text(0, "loud 1;");
    x.text(1, "most 9;");
    x.text(2, "at 0 deed 0;");
    x.text(3, "hearer 0 beside 1;");
    return x;
  }

  /** loud of a DEED by THE LAW. */
  private static int loud(String law) {
    Counted x = three();
    due("lines of " + law, x.text(0, law) > 0, true);
    return x.deedOf(0, 5);
  }

  /** clap of a HEARER with 2 HANDS, LIKES 9 by THE LAW. */
  private static int clap(String law) {
    Counted x = three();
    due("lines of " + law, x.text(0, law) > 0, true);
    return x.of(0, 10);
  }

  static void all(Edges e) {
    empty(e);
    lines(e);
    tokens(e);
    faultOne(e);
    faultTwo(e);
    faultThree(e);
    firstFault(e);
    grammar(e);
    ints(e);
    told(e);
    statute(e);
    gallery(e);
    longest(e);
  }

  private static void empty(Edges e) {
    e.edge(13, "TEXTS (empty at first)", () -> {
      Counted x = new Counted();
      for (int k = 0; k <= 3; k++) due("lines of " + k, x.look(11 + k), 0);
    });
    e.edge(13, "0 THE LAW = {(loud | clap | wears) E [when B] ;}", () -> {
      for (int k = 0; k <= 3; k++) {
        Counted x = three();
        Edges.reads(x, k, "", 0);
        Edges.reads(x, k, " \n \n", 0);
        due("the others stay", x.look(11) + x.look(12) + x.look(13) + x.look(14), 3);
      }
      Counted y = three();
      due("loud 1", y.deedOf(0, 5), 1);
      y.text(0, "");
      due("loud without a line", y.deedOf(0, 5), 3);
    });
  }

  private static void lines(Edges e) {
    String[] line = {"loud 1;", "most 1;", "at 1 deed 0;", "hearer 0 beside 1;"};
    e.edge(13, "16 lines of each at most.", () -> {
      for (int k = 0; k <= 3; k++) {
        reads(k, Edges.times(15, line[k]), 15);
        reads(k, Edges.times(16, line[k]), 16);
        due("17 lines", three().text(k, Edges.times(17, line[k])), NONE);
      }
    });
    e.edge(14, "3 (at its KEYWORD) the 17th line of a text", () -> {
      for (int k = 0; k <= 3; k++) {
        String full = Edges.times(16, line[k]);
        fails(k, full + line[k], 3, full.length());
        fails(k, full + " \n" + line[k] + line[k], 3, full.length() + 2);
        fails(k, full + (k == 0 ? "wears" : k == 1 ? "double" : line[k].substring(0, 2 + k / 3 * 4)), 3, full.length());
        reads(k, full + " ", 16);
      }
      String each = "hands 1 from 0; most 1; double 0; end 1;";
      fails(1, Edges.times(4, each) + "hands 0", 3, 160);
      fails(0, Edges.times(5, "loud 1; clap 1; wears 1;") + "loud 1; clap 1;", 3, 120 + 8);
    });
  }

  // ==== TOKENS ====

  private static void tokens(Edges e) {
    e.edge(14, "letters as many as stand together are KEYWORDS (those told here for that text) or none", () -> {
      reads(0, "loud1when1=1and not 1=2or 3>2;", 1);
      fails(0, "loudclap 1;", 1, 0);
      fails(0, "lou 1;", 1, 0);
      fails(0, "loude 1;", 1, 0);
      fails(0, "lo ud 1;", 1, 0);
      fails(0, "LOUD 1;", 1, 0);
      for (char c = 'a'; c <= 'z'; c++) fails(0, "loud" + c + " 1;", 1, 0);
      for (char c = 'A'; c <= 'Z'; c++) fails(0, "loud" + c + " 1;", 1, 0);
      fails(0, "loud 1a;", 1, 6);
      fails(0, "loud notes;", 1, 5);
      fails(0, "loud 1 when not1=1 andnot 1=1;", 1, 19);
      // each with one letter that is another, with one less, with one more
      String[] texts = {"loud 1; clap hearer+hands+likes+manners+paid+worth+wear+agains+beside+late; wears 1 when not 1=1 and 1=1 or 1=1;",
        "hands 1 from 0; most 1; double 0; end 1;", "at 1 deed 0;", "hearer 0 beside 1;"};
      for (int k = 0; k <= 3; k++) {
        reads(k, texts[k], k == 0 ? 3 : k == 1 ? 4 : 1);
        for (int i = 0; i < texts[k].length(); i++) {
          if (!Character.isLetter(texts[k].charAt(i))) continue;
          int from = i;
          while (from > 0 && Character.isLetter(texts[k].charAt(from - 1))) from--;
          fails(k, texts[k].substring(0, i) + "x" + texts[k].substring(i + 1), 1, from);
          fails(k, texts[k].substring(0, i) + "x" + texts[k].substring(i), 1, from);
          String less = texts[k].substring(0, i) + texts[k].substring(i + 1);
          // of wears without its s stays a KEYWORD, though no line begins with it
          fails(k, less, 1, from);
        }
      }
      // those of the other texts
      String[] others = {"from", "most", "double", "end", "at", "deed"};
      for (String other : others) fails(0, "loud " + other + ";", 1, 5);
      fails(0, "hands 1 from 0;", 1, 0);
      fails(1, "loud 1;", 1, 0);
      fails(1, "hands paid from 0;", 1, 6);
      fails(2, "at 1 hearer 0;", 1, 5);
      fails(3, "hearer 0 deed 1;", 1, 9);
    });
    e.edge(14, "digits as many as stand together NUMBERS of 1 to 4 digits or none", () -> {
      due("one digit", loud("loud 7;"), 7);
      due("two", loud("loud 07;"), 7);
      due("three", loud("loud 007;"), 7);
      due("four", loud("loud 0007;"), 7);
      due("the greatest", loud("loud 9999 / 101;"), 99);
      fails(0, "loud 00007;", 1, 5);
      fails(0, "loud 10000;", 1, 5);
      fails(0, "loud 99999999999999999999;", 1, 5);
      fails(0, "loud 4294967297;", 1, 5);
      fails(0, "loud 1 1;", 1, 7);
      fails(1, "most 00000;", 1, 5);
      fails(2, "at 00001 deed 0;", 1, 3);
      fails(3, "hearer 00000 beside 1;", 1, 7);
      reads(3, "hearer 0000 beside 0001;", 1);
    });
    e.edge(14, "Blanks (32, 10) between.", () -> {
      reads(0, "loud\n1\n\n+ \n1 \n;", 1);
      reads(0, "\n loud 1;\n ", 1);
      int[] none = {0, 9, 11, 12, 13, 31, 33, 127, 160, 255};
      for (int c : none) {
        fails(0, "loud 1" + (char) c + ";", 1, 6);
        fails(0, (char) c + "loud 1;", 1, 0);
        fails(0, "loud 1;" + (char) c, 1, 7);
      }
    });
    e.edge(14, "; + - * / ( ) < = > .", () -> {
      // what stands between a NUMBER and the end of its line: a blank, a digit, and nothing else
      for (int c = 0; c < 256; c++) {
        boolean letter = c >= 'a' && c <= 'z' || c >= 'A' && c <= 'Z';
        boolean fits = c == 32 || c == 10 || c >= '0' && c <= '9';
        boolean sign = ";+-*/()<=>".indexOf(c) >= 0;
        if (fits) reads(0, "loud 1" + (char) c + ";", 1);
        else if (!sign && !letter) fails(0, "loud 1" + (char) c + ";", 1, 6);
      }
      reads(0, "loud 1+2-3*4/5 when (1<2) and (1=1) and (2>1);", 1);
      fails(0, "loud 1;;", 1, 7);
    });
  }

  // ==== FAULTS ====

  private static void faultOne(Edges e) {
    e.edge(14, "1 what can't stand there (the end: the text's length)", () -> {
      fails(0, "loud", 1, 4);
      fails(0, "loud  \n", 1, 7);
      fails(0, "loud 1", 1, 6);
      fails(0, "loud 1 when", 1, 11);
      fails(0, "loud 1 when (1=1", 1, 16);
      fails(0, "loud 1/", 1, 7);
      fails(0, "loud 1;clap", 1, 11);
      fails(1, "hands", 1, 5);
      fails(1, "hands 1 from 1", 1, 14);
      fails(2, "at", 1, 2);
      fails(3, "hearer 0 beside", 1, 15);
      String blank = "loud" + Edges.times(396, " ");
      fails(0, blank, 1, 400);
      fails(0, ";", 1, 0);
      fails(0, "7", 1, 0);
      fails(1, ";", 1, 0);
      fails(2, "0", 1, 0);
      fails(3, "beside", 1, 0);
    });
  }

  private static void faultTwo(Edges e) {
    e.edge(14, "2 (at the NUMBER) a part by 0", () -> {
      fails(0, "loud 1/0;", 2, 7);
      fails(0, "loud 1 / 0000;", 2, 9);
      fails(0, "loud 1 when 1 = 2 * 3 / 0;", 2, 24);
      reads(0, "loud 0/1;", 1);
      reads(0, "loud 1*0;", 1);
      due("by 9999", loud("loud 9999/9999;"), 1);
      // only a NUMBER may stand there
      fails(0, "loud 1/late;", 1, 7);
      fails(0, "loud 1/00000;", 1, 7);
    });
    e.edge(14, "one beyond its bounds", () -> {
      fails(1, "hands 0 from 0;", 2, 6);
      fails(1, "hands 100 from 0;", 2, 6);
      fails(1, "most 21;", 2, 5);
      fails(1, "end 0;", 2, 4);
      fails(1, "most 9999;", 2, 5);
      // one of five digits is none
      fails(1, "hands 1 from 10000;", 1, 13);
      fails(1, "end 10000;", 1, 4);
      fails(2, "at 10000 deed 0;", 1, 3);
    });
    e.edge(14, "a HEARER, a DEED that there is not", () -> {
      reads(1, "double 2;", 1);
      fails(1, "double 3;", 2, 7);
      reads(2, "at 0 deed 1;", 1);
      fails(2, "at 0 deed 2;", 2, 10);
      reads(3, "hearer 2 beside 0;", 1);
      fails(3, "hearer 3 beside 0;", 2, 7);
      reads(3, "hearer 0 beside 2;", 1);
      fails(3, "hearer 0 beside 3;", 2, 16);
      Counted x = new Counted();
      Edges.fails(x, 1, "double 0;", 2, 7);
      Edges.fails(x, 2, "at 0 deed 0;", 2, 10);
      Edges.fails(x, 3, "hearer 0 beside 1;", 2, 7);
      Counted y = Edges.people(12, 8);
      Edges.reads(y, 1, "double 11;", 1);
      Edges.fails(y, 1, "double 12;", 2, 7);
      Edges.reads(y, 2, "at 0 deed 7;", 1);
      Edges.fails(y, 2, "at 0 deed 8;", 2, 10);
      Edges.reads(y, 3, "hearer 11 beside 10;", 1);
      Edges.fails(y, 3, "hearer 12 beside 11;", 2, 7);
      // one sent away is there, as far as a text goes
      Counted z = Edges.people(2, 0);
      z.let(1, false);
      Edges.reads(z, 3, "hearer 0 beside 1;", 1);
    });
    e.edge(14, "the same HEARER again (of GALLERY)", () -> {
      fails(3, "hearer 0 beside 0;", 2, 16);
      fails(3, "hearer 2 beside 0002;", 2, 16);
      fails(3, "hearer 1 beside 2; hearer 1 beside 1;", 2, 35);
      fails(3, "hearer 1 beside 1", 2, 16);
      // in another line he may come again
      reads(3, "hearer 0 beside 1; hearer 0 beside 1; hearer 1 beside 0;", 3);
    });
  }

  private static void faultThree(Edges e) {
    e.edge(14, "(at it) the 9th ( or not that is open.", () -> {
      for (int brackets = 0; brackets <= 8; brackets++) {
        String eight = Edges.times(8 - brackets, "not ") + Edges.times(brackets, "(");
        String shut = Edges.times(brackets, ")");
        reads(0, "loud 1 when " + eight + "1=1" + shut + ";", 1);
        fails(0, "loud 1 when " + eight + "(1=1)" + shut + ";", 3, 12 + eight.length());
        fails(0, "loud 1 when " + eight + "not 1=1" + shut + ";", 3, 12 + eight.length());
        fails(0, "loud 1 when " + eight + "(", 3, 12 + eight.length());
      }
      // what has ended is not open any more
      String eight = "((((((((1=1))))))))";
      reads(0, "loud 1 when " + eight + " and " + eight + " or not not " + "((((((1=1))))));", 1);
      fails(0, "loud 1 when " + eight + " and (" + eight + ");", 3, 12 + 19 + 5 + 8);
      reads(0, "loud 1 when (((((((1=1 or not 1=1 and not 1=1) or not 1=1))))));", 1);
      fails(0, "loud 1 when (((((((1=1 or not not 1=1)))))));", 3, 30);
      fails(0, "loud 1 when not 1=1 or (((((((((1=1)))))))));", 3, 31);
      fails(0, "loud 1 when not not 1=1 and not(1=1)or (((((((((1=1)))))))));", 3, 47);
      // those of a line before do not count
      reads(0, "loud 1 when " + eight + "; loud 2 when " + eight + ";", 2);
      reads(0, "loud 1 when not not not not not not not not 1=1; loud 2 when not 1=1;", 2);
    });
  }

  private static void firstFault(Edges e) {
    e.edge(14, "FAULTS, the first by its place", () -> {
      fails(0, "loud 1/0; loud;", 2, 7);
      fails(0, "loud 1 1/0;", 1, 7);
      fails(0, "loud 1/0", 2, 7);
      fails(1, "hands 0 most;", 2, 6);
      fails(1, "hands 0 from 10000;", 2, 6);
      fails(3, "hearer 3 beside 3;", 2, 7);
      fails(3, "hearer 3 hearer 0;", 2, 7);
      fails(2, "at 0 deed 2", 2, 10);
      fails(0, "loud 1 when not not not not not not not not not 1/0=1;", 3, 44);
      fails(0, "loud 1 when 1/0=1 and not not not not not not not not not 1=1;", 2, 14);
    });
    e.edge(14, "at one place the least", () -> {
      // none at all, though too great, too
      fails(1, "most 99999;", 1, 5);
      fails(1, "double 99999;", 1, 7);
      // what can't begin a line, though it would be the 17th
      String full = Edges.times(16, "most 1;");
      fails(1, full + "from 1;", 1, 112);
      fails(1, full + ";", 1, 112);
      fails(1, full + "1", 1, 112);
      // what can't stand there, though it would be the 9th
      fails(0, "loud 1 when ((((((((1(=1;", 1, 21);
      fails(0, "loud 1 when ((((((((1 not;", 1, 22);
      fails(0, "loud 1 when ((((((((;", 1, 20);
      fails(0, "loud 1 when ((((((((1=1 (", 1, 24);
    });
  }

  // ==== THE LAW ====

  private static void grammar(Edges e) {
    e.edge(13, "B = A {or A}.  A = C {and C}.  C = E (< | = | >) E | not C | ( B ).", () -> {
      String[] so = {"1=1", "1<2", "2>1", "not 1=2", "(1=1)", "1=1 or 1=1 and 1=2", "1=2 and 1=1 or 1=1", "not 1=2 and 1=1",
        "not (1=1 and 1=2)", "not not 1=1", "1=2 or 1=2 or 1=1", "1=1 and 1=1 and 1=1", "(1=2 or 1=1) and 1=1", "not 1=1 or 1=1",
        "1<2 and 1=1", "1=1 and 2>1", "1<2 and 2>1", "not 1>2 and 1<2"};
      String[] not = {"1=2", "1<1", "1>1", "2<1", "1>2", "not 1=1", "(1=2)", "(1=1 or 1=1) and 1=2", "1=1 and 1=1 and 1=2",
        "not (1=1 or 1=2)", "not not 1=2", "1=2 or 1=2 or 1=2", "not 1=1 and 1=1", "not 1=2 and 1=2"};
      for (String b : so) due(b, loud("loud 8 when " + b + "; loud 2;"), 8);
      for (String b : not) due(b, loud("loud 8 when " + b + "; loud 2;"), 2);
      fails(0, "loud 1 when 1;", 1, 13);
      fails(0, "loud 1 when 1=1=1;", 1, 15);
      fails(0, "loud 1 when (1)=1;", 1, 14);
      fails(0, "loud 1 when ();", 1, 13);
      fails(0, "loud 1 when 1=1);", 1, 15);
      fails(0, "loud 1 when (1=1;", 1, 16);
      fails(0, "loud 1 when 1=1 or;", 1, 18);
      fails(0, "loud 1 when and 1=1;", 1, 12);
      fails(0, "loud 1 when 1=1 when 1=1;", 1, 16);
      fails(0, "loud 1=1;", 1, 6);
      fails(0, "loud not 1;", 1, 5);
      fails(0, "loud (1);", 1, 5);
      fails(0, "when 1=1;", 1, 0);
      fails(0, "loud when 1=1;", 1, 5);
      fails(0, "loud 1 when 1=1) or (1=1;", 1, 15);
    });
    e.edge(13, "NONE: no such one (fault() tells 0), or a FAULT", () -> {
      // what was open when a FAULT came is not open in the next text
      Counted x = three();
      Edges.fails(x, 0, "loud 1 when ((((((((1=1", 1, 23);
      Edges.fails(x, 0, "loud 1 when 1=1);", 1, 15);
      Edges.fails(x, 0, "loud 1 when not not not not not not not not (", 3, 44);
      Edges.reads(x, 0, "loud 1 when ((((((((1=1))))))));", 1);
      Edges.fails(x, 0, "loud 5 when 1=1 or 1", 1, 20);
      Edges.reads(x, 0, "loud 7+1;", 1);
      due("as it stands", x.deedOf(0, 5), 8);
    });
    e.edge(13, "E = T {(+ | -) T}.  T = U {* U | / NUMBER}.", () -> {
      due("from the left", loud("loud 9-3-1;"), 5);
      due("products first", loud("loud 2+3*4-1*5;"), 9);
      due("by from the left", loud("loud 60/3/2*5;"), 50);
      due("downwards each time", loud("loud 7/2*2;"), 6);
      due("ahead of when", loud("loud 2+3 when 1=1;"), 5);
      due("ahead of when", loud("loud 9-2*3 when 1=1;"), 3);
      due("on both sides", loud("loud 8 when 1+2*3=21/3; loud 2;"), 8);
      fails(0, "loud 1+;", 1, 7);
      fails(0, "loud +1;", 1, 5);
      fails(0, "loud -1;", 1, 5);
      fails(0, "loud 1*;", 1, 7);
      fails(0, "loud 1*-1;", 1, 7);
      fails(0, "loud ;", 1, 5);
    });
    e.edge(13, "U = NUMBER | hearer | hands | likes | manners | paid | worth | wear | agains | beside | late.", () -> {
      String[] words = {"hearer", "hands", "likes", "manners", "paid", "worth", "wear", "agains", "beside", "late"};
      int[] ofClap = {1, 3, 4, 2, 5, 3, 70, 2, 0, 1};
      int[] ofDeed = {0, 0, 0, 0, 0, 3, 70, 2, 0, 1};
      for (int i = 0; i < words.length; i++) {
        Counted x = three();
        x.text(1, "hands 99 from 0;");
        for (int n = 0; n < 3; n++) x.perform(1);
        x.pay(1, 5);
        x.set(5, 1, 70);
        x.text(0, "clap " + words[i] + "; loud " + words[i] + "; wears " + words[i] + ";");
        due("clap " + words[i], x.of(1, 11), ofClap[i]);
        due("loud " + words[i], x.deedOf(1, 5), ofDeed[i]);
        due("wears " + words[i], x.deedOf(1, 6), ofDeed[i]);
        if (i < 5 || i == 8) due("the rest 0", loud("loud 50 + " + words[i] + ";"), 50);
      }
    });
  }

  private static void ints(Edges e) {
    e.edge(15, "Ints, which wrap; / goes towards 0.", () -> {
      // 9999 * 9999 is 99980001: 21 of them are 2099580021, 22 wrap to -2095407274
      due("not yet", clap("clap 9999*9999*21;"), 1000);
      due("* wraps", clap("clap 9999*9999*22;"), 0);
      due("+ wraps", clap("clap 9999*9999*21+9999*9999;"), 0);
      due("- wraps", clap("clap 0-9999*9999*21-9999*9999;"), 1000);
      due("twice around", clap("clap 9999*9999*43/9999;"), 417);
      String greatest = "9999*9999*21+4790*9999+8416";
      String least = "0-9999*9999*21-4790*9999-8416-1";
      due("2147483647 is above 0", clap("clap 7 when " + greatest + ">0; clap 8;"), 7);
      due("one more is below 0", clap("clap 7 when " + greatest + "+1<0; clap 8;"), 7);
      due("and the least", clap("clap 7 when " + greatest + "+1=" + least + "; clap 8;"), 7);
      due("-2147483648 is below 0", clap("clap 7 when " + least + "<0; clap 8;"), 7);
      due("one less is the greatest", clap("clap 7 when " + least + "-1=" + greatest + "; clap 8;"), 7);
      due("they are compared without a difference", clap("clap 7 when " + least + "<" + greatest + "; clap 8;"), 7);
      due("the other way", clap("clap 7 when " + greatest + ">" + least + "; clap 8;"), 7);
      // -2095407274 by 9999 is -209561.7: by 9999 once more -20.9
      due("towards 0", clap("clap 520+9999*9999*22/9999/9999;"), 500);
    });
    e.edge(15, "loud held to 0 .. 99, clap to 0 .. 1000, wears to 0 .. 99", () -> {
      int[][] rows = {{0, 0, 0}, {1, 1, 1}, {98, 98, 98}, {99, 99, 99}, {100, 99, 100}, {999, 99, 999}, {1000, 99, 1000},
        {1001, 99, 1000}, {9999, 99, 1000}};
      for (int[] r : rows) {
        Counted x = three();
        x.text(0, "loud " + r[0] + "; clap " + r[0] + "; wears " + r[0] + ";");
        due("loud of " + r[0], x.deedOf(0, 5), r[1]);
        due("wears of " + r[0], x.deedOf(0, 6), r[1]);
        due("clap of " + r[0], x.of(0, 10), r[2]);
      }
      Counted y = three();
      y.text(0, "loud 0-1; clap 0-1; wears 0-1;");
      due("loud of -1", y.deedOf(0, 5), 0);
      due("wears of -1", y.deedOf(0, 6), 0);
      due("clap of -1", y.of(0, 10), 0);
    });
  }

  private static void told(Edges e) {
    e.edge(15, "E of the first line with that word whose B is so, or that has none", () -> {
      due("the first", loud("loud 4; loud 5;"), 4);
      due("the first that is so", loud("loud 4 when 1=2; loud 5 when 1=1; loud 6;"), 5);
      due("one that has none", loud("loud 4 when 1=2; loud 5; loud 6 when 1=1;"), 5);
      due("with that word", loud("clap 7; wears 8; loud 9;"), 9);
      due("the 16th", loud(Edges.times(15, "loud 1 when 1=2;") + "loud 6;"), 6);
      due("by what is asked", clap("clap 4 when hearer=1; clap 5 when hearer=0; clap 6;"), 5);
    });
    e.edge(16, "(none: loud: worth by 3, clap: 100 times likes, wears 2)", () -> {
      Counted x = three();
      x.text(0, "");
      due("loud", x.deedOf(0, 5), 3);
      due("clap", x.of(0, 10), 900);
      due("wears", x.deedOf(0, 6), 2);
      x.text(0, "loud 9 when 1=2; clap 9 when 1=2; wears 9 when 1=2;");
      due("loud, none is so", x.deedOf(0, 5), 3);
      due("clap, none is so", x.of(0, 10), 900);
      due("wears, none is so", x.deedOf(0, 6), 2);
      Counted y = new Counted();
      y.hearer(0, 0, 0);
      y.deed(0, 1, 0);
      due("LIKES 0", y.of(0, 10), 0);
      due("WORTH 0", y.deedOf(0, 5), 0);
    });
  }

  // ==== THE STATUTE, GALLERY ====

  private static void statute(Edges e) {
    e.edge(17, "hands 1 .. 99, EVENING 0 .. 9999", () -> {
      reads(1, "hands 1 from 0;", 1);
      reads(1, "hands 99 from 9999;", 1);
      fails(1, "hands 0 from 0;", 2, 6);
      fails(1, "hands 100 from 0;", 2, 6);
      fails(1, "hands 1 from 10000;", 1, 13);
    });
    e.edge(17, "so many hands make an again from that EVENING on, the latest line with an EVENING not above it counts", () -> {
      Counted x = three();
      x.text(1, "hands 30 from 3; hands 20 from 2; hands 40 from 9999;");
      int[] dues = {5, 5, 20, 30, 30};
      for (int evening = 0; evening < dues.length; evening++) {
        due("in EVENING " + evening, x.statute(0), dues[evening]);
        x.evenings(1);
      }
    });
    e.edge(17, "of several for one the last, without any 5", () -> {
      Counted x = three();
      due("without any", x.statute(0), 5);
      x.text(1, "hands 7 from 0; hands 9 from 0; hands 8 from 0; hands 6 from 1;");
      due("the last of 0", x.statute(0), 8);
      x.text(1, "most 7;");
      due("without any", x.statute(0), 5);
    });
    e.edge(17, "most 0 .. 20: agains in a row at most, the last line, without any 9", () -> {
      reads(1, "most 0;", 1);
      reads(1, "most 20;", 1);
      fails(1, "most 21;", 2, 5);
      Counted x = new Counted();
      due("without any", x.statute(1), 9);
      x.text(1, "most 4; most 20; most 0;");
      due("the last", x.statute(1), 0);
      x.text(1, "end 7; hands 8 from 0;");
      due("without any", x.statute(1), 9);
    });
    e.edge(17, "end 1 .. 9999: no DEED begins at or behind that MINUTE, the last line, without any 300.", () -> {
      reads(1, "end 1;", 1);
      reads(1, "end 9999;", 1);
      fails(1, "end 0;", 2, 4);
      fails(1, "end 10000;", 1, 4);
      Counted x = Edges.people(0, 1);
      due("without any", x.statute(2), 300);
      x.text(2, "at 299 deed 0;");
      due("at 299", x.evenings(1), 1);
      x.text(2, "at 300 deed 0;");
      due("at 300", x.evenings(1), 0);
      x.text(1, "end 5; end 302; end 301;");
      due("the last", x.statute(2), 301);
      due("at 300", x.evenings(1), 1);
      x.text(2, "at 301 deed 0;");
      due("at 301", x.evenings(1), 0);
    });
    e.edge(15, "double: that HEARER's hands count twice", () -> {
      Counted x = three();
      x.text(1, "double 2; double 0; double 2;");
      due("of 0", x.of(0, 7), 2);
      due("of 1", x.of(1, 7), 1);
      due("of 2, told twice", x.of(2, 7), 2);
      due("one told later", x.hearer(1, 1, 1), 3);
      due("counts once", x.of(3, 7), 1);
      x.text(1, "most 1;");
      due("of 0, no more", x.of(0, 7), 1);
    });
    e.edge(13, "2 PROGRAMME = {at MINUTE deed DEED ;} (MINUTE 0 .. 9999.)", () -> {
      reads(2, "at 0 deed 0;", 1);
      reads(2, "at 9999 deed 1;", 1);
      fails(2, "at 10000 deed 1;", 1, 3);
      fails(2, "at 1 deed;", 1, 9);
      fails(2, "at 1 deed 0", 1, 11);
      fails(2, "at 1 deed 0 1;", 1, 12);
    });
  }

  private static void gallery(Edges e) {
    e.edge(15, "3 GALLERY = {hearer HEARER beside HEARER ;} (either way; unlike.)", () -> {
      Counted x = three();
      x.text(3, "hearer 2 beside 0; hearer 0 beside 2; hearer 2 beside 0;");
      due("beside 0", x.of(0, 6), 4);
      due("beside 1", x.of(1, 6), 0);
      due("beside 2", x.of(2, 6), 1);
      x.text(3, "");
      due("beside 0, no more", x.of(0, 6), 0);
      Counted y = Edges.people(12, 0);
      y.text(3, "hearer 11 beside 0; hearer 10 beside 11;");
      due("beside 11", y.of(11, 6), 1025);
      due("beside 0", y.of(0, 6), 2048);
      due("beside 10", y.of(10, 6), 2048);
      Counted z = Edges.people(2, 0);
      z.text(3, "hearer 0 beside 1;");
      z.hearer(1, 1, 1);
      due("one told later is beside nobody", z.of(2, 6), 0);
      due("and they stay", z.of(0, 6) * 10 + z.of(1, 6), 21);
    });
  }

  // ==== as long as a text can be ====

  private static String full(String text) {
    return text + Edges.times(Counted.MOST_BYTES - text.length(), " ");
  }

  private static void longest(Edges e) {
    e.edge(13, "The TAPE, empty then, is TEXT k: how many lines.", () -> {
      for (String joined : new String[] {"or1=1", "and1=1", "or1=2", "or(1=1)", "and(1=1)", "or not1=2", "or1+1=2*1"}) {
        String line = "loud4when1=1";
        while (line.length() + joined.length() < Counted.MOST_BYTES) line += joined;
        due(joined, loud(full(line + ";")), 4);
        fails(0, full(line), 1, 400);
      }
      for (String joined : new String[] {"+0", "-0", "*1", "/1"}) {
        String line = "loud4";
        while (line.length() + joined.length() < Counted.MOST_BYTES) line += joined;
        due(joined, loud(full(line + ";")), 4);
      }
      reads(0, Edges.times(16, "loud 1 when 1=1or 1=1;") + Edges.times(48, "\n"), 16);
      // nothing of a text is left when the next one comes
      Counted x = three();
      for (int i = 1; i <= 9; i++) {
        Edges.reads(x, 0, "loud" + i + Edges.times(197, "*1") + ";", 1);
        due("told for the " + i + "th time", x.deedOf(0, 5), i);
      }
      String deep = Edges.times(8, "1=2or1=1and(") + "1=2or1=1and3=1+1*2" + Edges.times(8, ")");
      due("all that may wait at once", loud("loud6when" + deep + ";loud5;"), 6);
      due("twice", loud("loud6when" + deep + "and" + deep + ";loud5;"), 6);
    });
  }
}
