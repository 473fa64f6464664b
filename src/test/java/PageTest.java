/** Promises 1 to 5: a new object, letter, blank, fault, town. */
public final class PageTest {
  private static final Check CHECK = new Check();

  public static void main(String[] args) {
    newObject();
    letters();
    fullPage();
    blankPage();
    faults();
    beginningsHaveNoFault();
    townsRead();
    pagesThatAreNoTown();
    anotherTown();
    CHECK.end();
  }

  private static void newObject() {
    LentQuill x = new LentQuill();
    for (int what = 0; what <= 8; what++) {
      CHECK.due("1: count(" + what + ")", 0, x.count(what));
    }
    CHECK.due("1: about", LentQuill.UNKNOWN, x.about(0, 0));
    CHECK.due("1: about, what too is wrong", LentQuill.UNKNOWN, x.about(0, 9));
    CHECK.due("1: as", LentQuill.UNKNOWN, x.as(0, 0));
    CHECK.due("1: lend", LentQuill.UNKNOWN, x.lend(0, 1));
    CHECK.due("1: had", LentQuill.UNKNOWN, x.had(0, 0));
    CHECK.due("1: sign", LentQuill.UNKNOWN, x.sign(0, 1));
    CHECK.due("1: deed", LentQuill.UNKNOWN, x.deed(0, 0));
    CHECK.due("1: free", LentQuill.UNKNOWN, x.free(0, 0));
    CHECK.due("1: owes", LentQuill.UNKNOWN, x.owes(0, 0));
    CHECK.due("1: way", LentQuill.UNKNOWN, x.way(0, 0, 0));
    CHECK.due("1: find", LentQuill.STATE, x.find(0));
    CHECK.due("1: hear", LentQuill.UNKNOWN, x.hear(0, true));
    CHECK.due("1: forget", 0, x.forget());
    CHECK.due("1: hands", LentQuill.UNKNOWN, x.hands(0, 0, 0));
    CHECK.due("1: ask", LentQuill.UNKNOWN, x.ask(0, 0));
    CHECK.due("1: fairs", LentQuill.STATE, x.fairs(1, 0, 0));
    CHECK.due("1: image", LentQuill.STATE, x.image());
    CHECK.due("1: restore", LentQuill.STATE, x.restore());
    CHECK.due("1: fault", 0, x.fault());
    CHECK.due("1: town", LentQuill.STATE, x.town());
    CHECK.due("1: blank", 0, x.blank());
  }

  private static void letters() {
    LentQuill x = new LentQuill();
    CHECK.due("2: letter(31)", LentQuill.OUTSIDE, x.letter(31));
    CHECK.due("2: letter(127)", LentQuill.OUTSIDE, x.letter(127));
    CHECK.due("2: letter(-1)", LentQuill.OUTSIDE, x.letter(-1));
    CHECK.due("2: letter(65536 + 'p')", LentQuill.OUTSIDE, x.letter(65536 + 'p'));
    CHECK.due("2: nothing came of refusals", 0, x.count(6));
    CHECK.due("2: letter(32)", 1, x.letter(32));
    CHECK.due("2: letter(126)", 2, x.letter(126));
  }

  private static void fullPage() {
    LentQuill x = new LentQuill();
    for (int i = 1; i <= 18; i++) {
      CHECK.due("2: letter " + i, i, x.letter('p'));
    }
    CHECK.due("2: the 19th letter", LentQuill.FULL, x.letter('p'));
    CHECK.due("2: OUTSIDE ahead of FULL", LentQuill.OUTSIDE, x.letter(127));
    CHECK.due("2: the page is as it was", 18, x.count(6));
  }

  private static void blankPage() {
    LentQuill x = new LentQuill();
    Check.write(x, "p1,");
    CHECK.due("3: blank", 3, x.blank());
    CHECK.due("3: blank again", 0, x.blank());
    CHECK.due("3: the first letter again", 1, x.letter('p'));
  }

  private static int faultOf(String text) {
    LentQuill x = new LentQuill();
    Check.write(x, text);
    return x.fault();
  }

  private static void faults() {
    String[] texts = {
      "x", "P", "1", ",", " ", "pp", "p,", "p/", "p:", "p1p", "p1;", "p1,;", "p1,p;", "p1,p1p",
      "p1,p1;0", "p1,p1;6", "p1,p1;,", "p1,p1;51", "p1,p1;5;", "p1,p1;5p", "p1,p1,;",
      "p1,p1,p1,p1,p1,", "p1,p1,p1,p1,p1,p1;1", "p1,p1,p1,p1,p1;1;", "p1,p1;x,p1", "p1,p1,p1;1,p1",
    };
    int[] places = {
      0, 0, 0, 0, 0, 1, 1, 1, 1, 2, 2, 3, 4, 5,
      6, 6, 6, 7, 7, 7, 6,
      14, 14, 16, 6, 10,
    };
    for (int i = 0; i < texts.length; i++) {
      CHECK.due("4: fault of " + texts[i], places[i], faultOf(texts[i]));
    }
  }

  private static void beginningsHaveNoFault() {
    for (String text : new String[] {"p0,b1;1", "t9,y5,a0;3", "a9,b8,t7,y6,p5;5"}) {
      for (int length = 0; length <= text.length(); length++) {
        String part = text.substring(0, length);
        CHECK.due("4: no fault in " + part, length, faultOf(part));
      }
    }
  }

  private static void townsRead() {
    LentQuill x = new LentQuill();
    Check.write(x, "p0,b1;1");
    CHECK.due("5: two people", 2, x.town());
    CHECK.due("5: the page is empty", 0, x.count(6));
    CHECK.due("5: people", 2, x.count(0));
    CHECK.due("5: limit", 1, x.count(1));
    CHECK.due("5: read once", 1, x.count(7));
    Check.write(x, "a9,b8,t7,y6,p5;5");
    CHECK.due("5: five people", 5, x.town());
    CHECK.due("5: limit", 5, x.count(1));
    CHECK.due("5: read twice", 2, x.count(7));
    int[] kinds = {4, 1, 2, 3, 0};
    int[] worths = {18, 8, 7, 6, 5};
    for (int i = 0; i < 5; i++) {
      CHECK.due("5: kind of " + i, kinds[i], x.about(i, 0));
      CHECK.due("5: worth of " + i, worths[i], x.about(i, 1));
    }
  }

  private static void pagesThatAreNoTown() {
    LentQuill x = Check.townOf("p1,p1;2");
    Check.lendAll(x, 0, 1);
    String[] texts = {"", "p1", "p1,p1", "p1,p1;", "p1,p1;0", "p1,p1;6", "p1,p1;11", "p1;1",
      "p1,p1,p1,p1,p1,p1;1", "x1,p1;1"};
    for (String text : texts) {
      Check.write(x, text);
      int letters = x.count(6);
      CHECK.due("5: no town: " + text, LentQuill.STATE, x.town());
      CHECK.due("5: the page stays: " + text, letters, x.blank());
    }
    CHECK.due("5: the old town stays", 1, x.had(0, 0));
    CHECK.due("5: not read", 1, x.count(7));
  }

  private static void anotherTown() {
    LentQuill x = Check.townOf("p1,t1,y1;2");
    Check.lendAll(x, 0, 1);
    x.sign(0, 3);
    x.hear(0, true);
    x.image();
    x.way(0, 0, 0);
    Check.write(x, "p1,t1,y1;2");
    CHECK.due("5: the same text again", 3, x.town());
    CHECK.due("5: pens are with their owners", 0, x.had(0, 0));
    CHECK.due("5: not lent", LentQuill.NONE, x.had(0, 1));
    CHECK.due("5: nothing lent", 0, x.count(2));
    CHECK.due("5: no deeds", 0, x.count(3));
    CHECK.due("5: no such deed", LentQuill.UNKNOWN, x.deed(0, 0));
    CHECK.due("5: nothing heard", 0, x.count(5));
    CHECK.due("5: what was heard does not bind the ways", 1, x.hands(2, 0, 0));
    CHECK.due("5: the image is of another town", LentQuill.STATE, x.restore());
    CHECK.due("5: what was done with way() is done", 1, x.count(8));
    Check.write(x, "p1,p1;2");
    CHECK.due("5: a smaller town", 2, x.town());
    CHECK.due("5: the third one is gone", LentQuill.UNKNOWN, x.about(2, 0));
    CHECK.due("5: his pen is gone", LentQuill.UNKNOWN, x.lend(2, 0));
    CHECK.due("5: nobody to lend to", LentQuill.UNKNOWN, x.lend(0, 2));
  }
}
