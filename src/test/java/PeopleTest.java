/** Promises 6 to 9: about, as, lend, had; and who is bound by a pen. */
public final class PeopleTest {
  private static final Check CHECK = new Check();

  public static void main(String[] args) {
    aboutOne();
    refusalsOfAbout();
    castsToKinds();
    boundUpToTheLimit();
    boundBackToAThief();
    boysAreNotBound();
    lendings();
    bishopsKeepPens();
    fortyLendings();
    whoHadAPen();
    CHECK.end();
  }

  private static void aboutOne() {
    LentQuill x = Check.townOf("p1,b2,t3,y4,a5;3");
    for (int i = 0; i < 5; i++) {
      CHECK.due("6: kind", i, x.about(i, 0));
      CHECK.due("6: worth", i == 4 ? 10 : i + 1, x.about(i, 1));
      CHECK.due("6: has his pen", i, x.about(i, 2));
      CHECK.due("6: bound by his pen", i == 3 ? 0 : 1 << i, x.about(i, 3));
      CHECK.due("6: pens", 1, x.about(i, 4));
      CHECK.due("6: deeds", 0, x.about(i, 5));
    }
    Check.lendAll(x, 0, 2);
    Check.lendAll(x, 3, 2);
    x.sign(0, 1);
    x.sign(3, 1);
    Check.lendAll(x, 2, 0);
    x.sign(2, 1);
    CHECK.due("6: who has pen 0", 2, x.about(0, 2));
    CHECK.due("6: bound by pen 0", 4, x.about(0, 3));
    CHECK.due("6: pens of 2", 2, x.about(2, 4));
    CHECK.due("6: pens of 3", 0, x.about(3, 4));
    CHECK.due("6: pens of 0", 1, x.about(0, 4));
    CHECK.due("6: deeds of 2", 3, x.about(2, 5));
    CHECK.due("6: deeds of 0", 1, x.about(0, 5));
    x.free(0, 2);
    CHECK.due("6: freed of one", 2, x.about(2, 5));
  }

  private static void refusalsOfAbout() {
    LentQuill x = Check.townOf("p1,p2;3");
    CHECK.due("6: about(-1, 0)", LentQuill.UNKNOWN, x.about(-1, 0));
    CHECK.due("6: about(2, 0)", LentQuill.UNKNOWN, x.about(2, 0));
    CHECK.due("6: about(0, -1)", LentQuill.OUTSIDE, x.about(0, -1));
    CHECK.due("6: about(0, 6)", LentQuill.OUTSIDE, x.about(0, 6));
    CHECK.due("6: UNKNOWN ahead of OUTSIDE", LentQuill.UNKNOWN, x.about(2, 6));
  }

  private static void castsToKinds() {
    LentQuill x = Check.townOf("p1,b2,t3,y4,a5;3");
    for (int person = 0; person < 5; person++) {
      for (int kind = 0; kind < 5; kind++) {
        boolean such = kind == 0 || kind == person || person == 4 && kind == 1;
        CHECK.due("7: as(" + person + ", " + kind + ")",
            such ? person : LentQuill.NONE, x.as(person, kind));
      }
    }
    CHECK.due("7: as(5, 0)", LentQuill.UNKNOWN, x.as(5, 0));
    CHECK.due("7: as(-1, 0)", LentQuill.UNKNOWN, x.as(-1, 0));
    CHECK.due("7: as(0, 5)", LentQuill.OUTSIDE, x.as(0, 5));
    CHECK.due("7: as(0, -1)", LentQuill.OUTSIDE, x.as(0, -1));
    CHECK.due("7: UNKNOWN ahead of OUTSIDE", LentQuill.UNKNOWN, x.as(5, 5));
  }

  private static void boundUpToTheLimit() {
    LentQuill one = Check.townOf("p1,p1,p1;1");
    CHECK.due("8: limit 1, the last alone", 2, one.lend(0, 1));
    LentQuill two = Check.townOf("p1,p1,p1;2");
    CHECK.due("8: limit 2", 3, two.lend(0, 1));
    CHECK.due("8: limit 2, the owner falls out", 6, two.lend(0, 2));
    CHECK.due("8: limit 2, to and fro", 6, two.lend(0, 1));
    CHECK.due("8: limit 2, each counted as last", 6, two.lend(0, 2));
    CHECK.due("8: limit 2, the owner comes back", 5, two.lend(0, 0));
    LentQuill five = Check.townOf("p1,p1;5");
    CHECK.due("8: a limit above all there are", 3, five.lend(0, 1));
  }

  private static void boundBackToAThief() {
    LentQuill x = Check.townOf("p1,t1,p1,t1;5");
    CHECK.due("8: the thief alone", 2, x.lend(0, 1));
    CHECK.due("8: back to the thief", 6, x.lend(0, 2));
    CHECK.due("8: back to the thief, not behind", 7, x.lend(0, 0));
    CHECK.due("8: the other thief alone", 8, x.lend(0, 3));
    CHECK.due("8: back to the nearer thief", 12, x.lend(0, 2));
    CHECK.due("8: and one again", 2, x.lend(0, 1));
  }

  private static void boysAreNotBound() {
    LentQuill x = Check.townOf("p1,y1,p1;2");
    CHECK.due("8: the boy is not bound", 1, x.lend(0, 1));
    CHECK.due("8: the boy takes a place of the limit", 4, x.lend(0, 2));
    LentQuill boys = Check.townOf("y1,y1,p1;1");
    CHECK.due("8: nobody", 0, boys.lend(0, 1));
    CHECK.due("8: the last alone", 4, boys.lend(0, 2));
    CHECK.due("8: nobody again", 0, boys.lend(0, 1));
  }

  private static void lendings() {
    LentQuill x = Check.townOf("p1,p1;2");
    CHECK.due("8: lend(-1, 0)", LentQuill.UNKNOWN, x.lend(-1, 0));
    CHECK.due("8: lend(2, 0)", LentQuill.UNKNOWN, x.lend(2, 0));
    CHECK.due("8: lend(0, -1)", LentQuill.UNKNOWN, x.lend(0, -1));
    CHECK.due("8: lend(0, 2)", LentQuill.UNKNOWN, x.lend(0, 2));
    CHECK.due("8: he has it", LentQuill.STATE, x.lend(0, 0));
    CHECK.due("8: nothing was lent", 0, x.count(2));
    CHECK.due("8: lent", 3, x.lend(0, 1));
    CHECK.due("8: he has it now", LentQuill.STATE, x.lend(0, 1));
    CHECK.due("8: lent once", 1, x.count(2));
  }

  private static void bishopsKeepPens() {
    LentQuill x = Check.townOf("b1,a1,p1;3");
    CHECK.due("8: a bishop's own", LentQuill.STATE, x.lend(0, 2));
    CHECK.due("8: an abbot's own", LentQuill.STATE, x.lend(1, 2));
    CHECK.due("8: UNKNOWN ahead of STATE", LentQuill.UNKNOWN, x.lend(0, 3));
    CHECK.due("8: to a bishop", 5, x.lend(2, 0));
    CHECK.due("8: and no more", LentQuill.STATE, x.lend(2, 2));
    LentQuill y = Check.townOf("b1,a1,p1;3");
    CHECK.due("8: to an abbot", 6, y.lend(2, 1));
    CHECK.due("8: and no more", LentQuill.STATE, y.lend(2, 0));
  }

  private static void fortyLendings() {
    LentQuill x = Check.townOf("p1,p1,b1;2");
    Check.lendToAndFro(x, 0, 1, 40);
    CHECK.due("8: the 41st", LentQuill.FULL, x.lend(0, 1));
    CHECK.due("8: STATE ahead of FULL", LentQuill.STATE, x.lend(0, 0));
    CHECK.due("8: UNKNOWN ahead of FULL", LentQuill.UNKNOWN, x.lend(0, 3));
    CHECK.due("8: another pen", 3, x.lend(1, 0));
    CHECK.due("8: all lendings", 41, x.count(2));
    LentQuill y = Check.townOf("p1,p1,b1;2");
    Check.lendToAndFro(y, 0, 1, 39);
    CHECK.due("8: the 40th", 6, y.lend(0, 2));
    CHECK.due("8: a bishop's is STATE, not FULL", LentQuill.STATE, y.lend(0, 0));
  }

  private static void whoHadAPen() {
    LentQuill x = Check.townOf("p1,p1,p1;2");
    Check.lendAll(x, 1, 0, 2, 0);
    int[] before = {0, 2, 0, 1, LentQuill.NONE};
    for (int back = 0; back < before.length; back++) {
      CHECK.due("9: had(1, " + back + ")", before[back], x.had(1, back));
    }
    CHECK.due("9: had(0, 0)", 0, x.had(0, 0));
    CHECK.due("9: had(1, 40)", LentQuill.NONE, x.had(1, 40));
    CHECK.due("9: had(1, 41)", LentQuill.OUTSIDE, x.had(1, 41));
    CHECK.due("9: had(1, -1)", LentQuill.OUTSIDE, x.had(1, -1));
    CHECK.due("9: had(3, 0)", LentQuill.UNKNOWN, x.had(3, 0));
    CHECK.due("9: had(-1, 0)", LentQuill.UNKNOWN, x.had(-1, 0));
    CHECK.due("9: UNKNOWN ahead of OUTSIDE", LentQuill.UNKNOWN, x.had(3, 41));
    LentQuill y = Check.townOf("p1,p1;2");
    Check.lendToAndFro(y, 0, 1, 40);
    CHECK.due("9: the owner 40 times ago", 0, y.had(0, 40));
    CHECK.due("9: the first borrower", 1, y.had(0, 39));
    CHECK.due("9: OUTSIDE, though lent 40 times", LentQuill.OUTSIDE, y.had(0, 41));
  }
}
