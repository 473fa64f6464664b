/** Promises 10 to 13: sign, deed, free, owes. */
public final class DeedTest {
  private static final Check CHECK = new Check();

  public static void main(String[] args) {
    signing();
    sixDeeds();
    deedsTold();
    freeing();
    owing();
    owingOfEachShare();
    CHECK.end();
  }

  private static void signing() {
    LentQuill x = Check.townOf("p1,y1,p1;2");
    CHECK.due("10: sign(3, 1)", LentQuill.UNKNOWN, x.sign(3, 1));
    CHECK.due("10: sign(-1, 1)", LentQuill.UNKNOWN, x.sign(-1, 1));
    CHECK.due("10: sign(0, 0)", LentQuill.OUTSIDE, x.sign(0, 0));
    CHECK.due("10: sign(0, 10)", LentQuill.OUTSIDE, x.sign(0, 10));
    CHECK.due("10: nobody bound", LentQuill.STATE, x.sign(1, 1));
    CHECK.due("10: UNKNOWN ahead of OUTSIDE", LentQuill.UNKNOWN, x.sign(3, 10));
    CHECK.due("10: OUTSIDE ahead of STATE", LentQuill.OUTSIDE, x.sign(1, 10));
    CHECK.due("10: none signed", 0, x.count(3));
    CHECK.due("10: the first", 0, x.sign(0, 1));
    CHECK.due("10: the second", 1, x.sign(0, 9));
    CHECK.due("10: two signed", 2, x.count(3));
  }

  private static void sixDeeds() {
    LentQuill x = Check.townOf("p1,y1;2");
    for (int i = 0; i < 6; i++) {
      CHECK.due("10: deed " + i, i, x.sign(0, 1));
    }
    CHECK.due("10: the seventh", LentQuill.FULL, x.sign(0, 1));
    CHECK.due("10: STATE ahead of FULL", LentQuill.STATE, x.sign(1, 1));
    CHECK.due("10: OUTSIDE ahead of FULL", LentQuill.OUTSIDE, x.sign(0, 0));
    x.free(0, 0);
    CHECK.due("10: a void deed keeps its number", LentQuill.FULL, x.sign(0, 1));
    CHECK.due("10: six stay", 6, x.count(3));
  }

  private static void deedsTold() {
    LentQuill x = Check.townOf("p4,a3,p2;3");
    x.sign(0, 7);
    Check.lendAll(x, 0, 2, 1);
    x.sign(0, 9);
    CHECK.due("11: debt", 7, x.deed(0, 0));
    CHECK.due("11: bound as it was then", 1, x.deed(0, 1));
    CHECK.due("11: sure", 4, x.deed(0, 2));
    CHECK.due("11: debt", 9, x.deed(1, 0));
    CHECK.due("11: bound", 7, x.deed(1, 1));
    CHECK.due("11: sure, the abbot twice", 12, x.deed(1, 2));
    x.free(1, 0);
    CHECK.due("11: debt stays", 9, x.deed(1, 0));
    CHECK.due("11: bound yet", 6, x.deed(1, 1));
    CHECK.due("11: sure yet", 8, x.deed(1, 2));
    CHECK.due("11: deed(2, 0)", LentQuill.UNKNOWN, x.deed(2, 0));
    CHECK.due("11: deed(-1, 0)", LentQuill.UNKNOWN, x.deed(-1, 0));
    CHECK.due("11: deed(0, 3)", LentQuill.OUTSIDE, x.deed(0, 3));
    CHECK.due("11: deed(0, -1)", LentQuill.OUTSIDE, x.deed(0, -1));
    CHECK.due("11: UNKNOWN ahead of OUTSIDE", LentQuill.UNKNOWN, x.deed(2, 3));
  }

  private static void freeing() {
    LentQuill x = Check.townOf("p4,p3,p2;3");
    Check.lendAll(x, 0, 1);
    x.sign(0, 5);
    x.sign(0, 6);
    CHECK.due("12: free(2, 0)", LentQuill.UNKNOWN, x.free(2, 0));
    CHECK.due("12: free(-1, 0)", LentQuill.UNKNOWN, x.free(-1, 0));
    CHECK.due("12: free(0, 3)", LentQuill.UNKNOWN, x.free(0, 3));
    CHECK.due("12: free(0, -1)", LentQuill.UNKNOWN, x.free(0, -1));
    CHECK.due("12: not bound", LentQuill.STATE, x.free(0, 2));
    CHECK.due("12: one is left", 1, x.free(0, 0));
    CHECK.due("12: not twice", LentQuill.STATE, x.free(0, 0));
    CHECK.due("12: nobody is left", 0, x.free(0, 1));
    CHECK.due("12: void", 1, x.count(4));
    CHECK.due("12: void binds nobody", LentQuill.STATE, x.free(0, 1));
    CHECK.due("12: void, told", 0, x.deed(0, 1));
    CHECK.due("12: void, sure", 0, x.deed(0, 2));
    CHECK.due("12: the other deed stays", 3, x.deed(1, 1));
    CHECK.due("12: the pen binds as before", 3, x.about(0, 3));
  }

  private static void owing() {
    LentQuill x = Check.townOf("p1,p1,p1,y1;3");
    CHECK.due("13: nothing, above", 0, x.owes(0, 0));
    CHECK.due("13: nothing, below", 1, x.owes(0, 1));
    x.sign(0, 4);
    Check.lendAll(x, 0, 1);
    x.sign(0, 3);
    Check.lendAll(x, 0, 2);
    x.sign(0, 1);
    CHECK.due("13: 4 + 3/2 + 1/3, above", 35, x.owes(0, 0));
    CHECK.due("13: 4 + 3/2 + 1/3, below", 6, x.owes(0, 1));
    CHECK.due("13: 3/2 + 1/3, above", 11, x.owes(1, 0));
    CHECK.due("13: 3/2 + 1/3, below", 6, x.owes(1, 1));
    CHECK.due("13: 1/3, above", 1, x.owes(2, 0));
    CHECK.due("13: 1/3, below", 3, x.owes(2, 1));
    CHECK.due("13: a boy, above", 0, x.owes(3, 0));
    CHECK.due("13: a boy, below", 1, x.owes(3, 1));
    x.free(1, 1);
    CHECK.due("13: the others' share grows, above", 22, x.owes(0, 0));
    CHECK.due("13: the others' share grows, below", 3, x.owes(0, 1));
    CHECK.due("13: freed, above", 1, x.owes(1, 0));
    CHECK.due("13: owes(4, 0)", LentQuill.UNKNOWN, x.owes(4, 0));
    CHECK.due("13: owes(-1, 0)", LentQuill.UNKNOWN, x.owes(-1, 0));
    CHECK.due("13: owes(0, 2)", LentQuill.OUTSIDE, x.owes(0, 2));
    CHECK.due("13: owes(0, -1)", LentQuill.OUTSIDE, x.owes(0, -1));
    CHECK.due("13: UNKNOWN ahead of OUTSIDE", LentQuill.UNKNOWN, x.owes(4, 2));
  }

  private static void owingOfEachShare() {
    LentQuill x = Check.townOf("p1,p1,p1,p1,p1;5");
    x.sign(0, 1);
    for (int to = 1; to < 5; to++) {
      Check.lendAll(x, 0, to);
      x.sign(0, 1);
    }
    CHECK.due("13: 1 + 1/2 + 1/3 + 1/4 + 1/5, above", 137, x.owes(0, 0));
    CHECK.due("13: 1 + 1/2 + 1/3 + 1/4 + 1/5, below", 60, x.owes(0, 1));
    CHECK.due("13: 1/4 + 1/5, above", 9, x.owes(3, 0));
    CHECK.due("13: 1/4 + 1/5, below", 20, x.owes(3, 1));
    x.free(3, 1);
    x.free(0, 0);
    x.free(3, 0);
    CHECK.due("13: 1/2 + 1/3 + 1/5, above", 31, x.owes(0, 0));
    CHECK.due("13: 1/2 + 1/3 + 1/5, below", 30, x.owes(0, 1));
    LentQuill most = Check.townOf("p1,p1;1");
    for (int i = 0; i < 6; i++) {
      most.sign(0, 9);
    }
    CHECK.due("13: six times 9, above", 54, most.owes(0, 0));
    CHECK.due("13: six times 9, below", 1, most.owes(0, 1));
  }
}
