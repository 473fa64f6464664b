/** Promises 16 to 20: hear, forget, hands, ask, fairs. */
public final class HeardTest {
  private static final Check CHECK = new Check();

  public static void main(String[] args) {
    hearing();
    forgetting();
    waysThatCanHaveBeen();
    waysByWhatIsHeard();
    waysOfAWornPen();
    refusalsOfHands();
    asking();
    refusalsOfAsk();
    fairsFromTheStart();
    fairsGoOnFromNow();
    fairsWithoutAnybodyBound();
    refusalsOfFairs();
    CHECK.end();
  }

  private static void hearing() {
    LentQuill x = Check.townOf("p1,p1;2");
    CHECK.due("16: hear(2)", LentQuill.UNKNOWN, x.hear(2, true));
    CHECK.due("16: hear(-1)", LentQuill.UNKNOWN, x.hear(-1, false));
    for (int i = 1; i <= 6; i++) {
      CHECK.due("16: heard " + i, i, x.hear(0, i % 2 == 0));
    }
    CHECK.due("16: the seventh", LentQuill.FULL, x.hear(1, true));
    CHECK.due("16: UNKNOWN ahead of FULL", LentQuill.UNKNOWN, x.hear(2, true));
    CHECK.due("16: six stay", 6, x.count(5));
  }

  private static void forgetting() {
    LentQuill x = Check.townOf("p1,p1;2");
    CHECK.due("17: nothing was", 0, x.forget());
    x.hear(0, true);
    x.hear(0, false);
    CHECK.due("17: both cannot be", 0, x.hands(0, 1, 0));
    CHECK.due("17: two were", 2, x.forget());
    CHECK.due("17: none is", 0, x.count(5));
    CHECK.due("17: it may be again", 1, x.hands(0, 1, 0));
    CHECK.due("17: heard anew", 1, x.hear(1, true));
  }

  private static void hands(LentQuill x, int pen, int times, int ways, int holders) {
    String call = "18: hands(" + pen + ", " + times + ", ";
    CHECK.due(call + "0)", ways, x.hands(pen, times, 0));
    CHECK.due(call + "1)", holders, x.hands(pen, times, 1));
  }

  private static void waysThatCanHaveBeen() {
    LentQuill x = Check.townOf("p1,p1,p1;3");
    hands(x, 0, 0, 1, 1);
    hands(x, 0, 1, 2, 6);
    hands(x, 0, 2, 4, 7);
    hands(x, 0, 4, 16, 7);
    LentQuill y = Check.townOf("p1,b1,p1;3");
    hands(y, 1, 0, 1, 2);
    hands(y, 1, 1, 0, 0);
    hands(y, 0, 1, 2, 6);
    hands(y, 0, 2, 2, 3);
    hands(y, 0, 4, 2, 3);
    CHECK.due("18: nothing is lent by it", 0, y.count(2));
  }

  private static void waysByWhatIsHeard() {
    LentQuill x = Check.townOf("p1,t1,y1,p1;2");
    x.hear(0, true);
    hands(x, 0, 0, 1, 1);
    hands(x, 0, 1, 2, 12);
    hands(x, 0, 2, 3, 1);
    x.hear(3, false);
    hands(x, 0, 1, 1, 4);
    hands(x, 0, 2, 2, 1);
    x.hear(1, true);
    hands(x, 0, 2, 1, 1);
    hands(x, 3, 1, 0, 0);
    x.forget();
    x.hear(2, true);
    hands(x, 0, 4, 0, 0);
  }

  private static void waysOfAWornPen() {
    LentQuill x = Check.townOf("p1,p1,p1;3");
    Check.lendToAndFro(x, 0, 1, 38);
    hands(x, 0, 2, 4, 7);
    hands(x, 0, 3, 0, 0);
    Check.lendAll(x, 0, 1, 0);
    hands(x, 0, 0, 1, 1);
    hands(x, 0, 1, 0, 0);
    hands(x, 1, 1, 2, 5);
  }

  private static void refusalsOfHands() {
    LentQuill x = Check.townOf("p1,p1;3");
    CHECK.due("18: hands(2, 0, 0)", LentQuill.UNKNOWN, x.hands(2, 0, 0));
    CHECK.due("18: hands(-1, 0, 0)", LentQuill.UNKNOWN, x.hands(-1, 0, 0));
    CHECK.due("18: hands(0, 5, 0)", LentQuill.OUTSIDE, x.hands(0, 5, 0));
    CHECK.due("18: hands(0, -1, 0)", LentQuill.OUTSIDE, x.hands(0, -1, 0));
    CHECK.due("18: hands(0, 0, 2)", LentQuill.OUTSIDE, x.hands(0, 0, 2));
    CHECK.due("18: hands(0, 0, -1)", LentQuill.OUTSIDE, x.hands(0, 0, -1));
    CHECK.due("18: UNKNOWN ahead of OUTSIDE", LentQuill.UNKNOWN, x.hands(2, 5, 2));
  }

  private static void asking() {
    LentQuill x = Check.townOf("p1,p1,p1,p1;2");
    CHECK.due("19: one way, all alike", 0, x.ask(0, 0));
    CHECK.due("19: three ways, each of three splits them", 1, x.ask(0, 1));
    CHECK.due("19: nine ways, 3 with the owner, 5 with each other one", 1, x.ask(0, 2));
    x.hear(1, false);
    CHECK.due("19: two ways left, the least that splits", 2, x.ask(0, 1));
    x.hear(2, false);
    CHECK.due("19: one way left", 0, x.ask(0, 1));
    x.hear(3, false);
    CHECK.due("19: no way left", LentQuill.NONE, x.ask(0, 1));
    LentQuill y = Check.townOf("b1,p1;2");
    CHECK.due("19: a bishop's is not lent", LentQuill.NONE, y.ask(0, 1));
    CHECK.due("19: but it can be not lent", 0, y.ask(0, 0));
  }

  private static void refusalsOfAsk() {
    LentQuill x = Check.townOf("p1,p1;3");
    CHECK.due("19: ask(2, 0)", LentQuill.UNKNOWN, x.ask(2, 0));
    CHECK.due("19: ask(-1, 0)", LentQuill.UNKNOWN, x.ask(-1, 0));
    CHECK.due("19: ask(0, 5)", LentQuill.OUTSIDE, x.ask(0, 5));
    CHECK.due("19: ask(0, -1)", LentQuill.OUTSIDE, x.ask(0, -1));
    CHECK.due("19: ask(0, 4)", 0, x.ask(0, 4));
    CHECK.due("19: UNKNOWN ahead of OUTSIDE", LentQuill.UNKNOWN, x.ask(2, 5));
  }

  /*
   * The seeds from 0: 12345, 1406932606, 654583775, 1449466924, 229283573, 1109335178. So of two
   * people the first time pen 0 would go to 0, who has it, for a debt of 8; the second time pen 1
   * goes to 0, for a debt of 8.
   */
  private static void fairs(LentQuill x, int times, int nobody, int parts, int seed) {
    CHECK.due("20: fairs(" + times + ", 0, 0)", nobody, x.fairs(times, 0, 0));
    CHECK.due("20: fairs(" + times + ", 0, 1)", parts, x.fairs(times, 0, 1));
    CHECK.due("20: fairs(" + times + ", 0, 2)", seed, x.fairs(times, 0, 2));
  }

  private static void fairsFromTheStart() {
    LentQuill x = Check.townOf("p1,p1;2");
    fairs(x, 1, 0, 480, 654583775);
    fairs(x, 2, 0, 720, 1109335178);
    CHECK.due("20: nothing is lent by it", 0, x.count(2));
    CHECK.due("20: nothing is signed by it", 0, x.count(3));
    LentQuill last = Check.townOf("p1,p1;1");
    fairs(last, 2, 0, 960, 1109335178);
    LentQuill bishop = Check.townOf("p1,b1;1");
    fairs(bishop, 2, 0, 480, 1109335178);
  }

  private static void fairsGoOnFromNow() {
    LentQuill x = Check.townOf("p1,p1;2");
    Check.lendAll(x, 0, 1);
    x.sign(0, 9);
    fairs(x, 1, 0, 240, 654583775);
    LentQuill worn = Check.townOf("p1,p1;1");
    Check.lendToAndFro(worn, 1, 0, 40);
    fairs(worn, 2, 0, 480, 1109335178);
    LentQuill six = Check.townOf("p1,p1;2");
    for (int i = 0; i < 6; i++) {
      six.sign(0, 1);
    }
    fairs(six, 2, 0, 720, 1109335178);
  }

  private static void fairsWithoutAnybodyBound() {
    LentQuill one = Check.townOf("y1,p1;1");
    fairs(one, 2, 2, 0, 1109335178);
    LentQuill two = Check.townOf("y1,p1;2");
    fairs(two, 2, 1, 0, 1109335178);
    CHECK.due("20: all three draws are made, though nobody is bound", 654583775, two.fairs(1, 0, 2));
  }

  private static void refusalsOfFairs() {
    LentQuill x = Check.townOf("p1,p1;2");
    CHECK.due("20: fairs(0, 0, 0)", LentQuill.OUTSIDE, x.fairs(0, 0, 0));
    CHECK.due("20: fairs(61, 0, 0)", LentQuill.OUTSIDE, x.fairs(61, 0, 0));
    CHECK.due("20: fairs(1, -1, 0)", LentQuill.OUTSIDE, x.fairs(1, -1, 0));
    CHECK.due("20: fairs(1, 0, 3)", LentQuill.OUTSIDE, x.fairs(1, 0, 3));
    CHECK.due("20: fairs(1, 0, -1)", LentQuill.OUTSIDE, x.fairs(1, 0, -1));
    CHECK.due("20: the greatest seed", 646343466, x.fairs(1, 2147483647, 2));
    LentQuill none = new LentQuill();
    CHECK.due("20: no town", LentQuill.STATE, none.fairs(60, 0, 0));
    CHECK.due("20: OUTSIDE ahead of STATE", LentQuill.OUTSIDE, none.fairs(61, 0, 0));
  }
}
