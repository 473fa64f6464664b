public final class Promise08LendTest {
  private static final int[] NOBODY = {-1, 5, Integer.MIN_VALUE, Integer.MAX_VALUE};

  public static void main(String[] args) {
    Promise promise = new Promise(8);
    hold(promise);
    promise.end();
  }

  static void hold(Promise promise) {
    boundThen(promise);
    goneThroughHands(promise);
    numbersThatNameNothing(promise);
    whoHasItAlready(promise);
    bishopsKeepPens(promise);
    fortyTimes(promise);
    firstOfSeveral(promise);
  }

  private static void boundThen(Promise promise) {
    promise.says("LENT: who is BOUND by it then, as bits.");
    LentQuill x = Towns.of("p1,p1,p1,p1,p1;5");
    promise.due("lend(0, 1)", 3, x.lend(0, 1));
    promise.due("lend(0, 4)", 19, x.lend(0, 4));
    promise.due("lend(0, 3)", 27, x.lend(0, 3));
    promise.due("lend(0, 2)", 31, x.lend(0, 2));
    promise.due("lend(4, 0)", 17, x.lend(4, 0));
    LentQuill boys = Towns.of("y1,y1;2");
    promise.due("nobody", 0, boys.lend(0, 1));
    LentQuill thief = Towns.of("p1,t1;2");
    promise.due("the thief alone", 2, thief.lend(0, 1));
    promise.due("back to the thief", 3, thief.lend(0, 0));
  }

  private static void goneThroughHands(Promise promise) {
    promise.says("LENT to another one than has it now, it has gone through that one's HANDS, too (the last).");
    LentQuill x = Towns.of("p1,p1,p1;1");
    Towns.lend(x, 2, 0, 1);
    promise.due("who has it", 1, x.had(2, 0));
    promise.due("who had it before", 0, x.had(2, 1));
    promise.due("its owner", 2, x.had(2, 2));
    promise.due("lent", 2, x.count(2));
    promise.due("to its owner", 4, x.lend(2, 2));
  }

  private static void numbersThatNameNothing(Promise promise) {
    promise.says("UNKNOWN: pen, to");
    promise.unknown("lend of pen", (x, pen) -> x.lend(pen, 1));
    promise.unknown("lend to", (x, to) -> x.lend(0, to));
  }

  private static void whoHasItAlready(Promise promise) {
    promise.says("STATE: that one has it");
    promise.refused("at first", LentQuill.STATE, () -> Towns.of("p1,p1;2"), x -> x.lend(0, 0));
    promise.refused("lent before", LentQuill.STATE, x -> x.lend(0, 4));
    promise.due("its owner has it no more", 19, Towns.busy().lend(0, 0));
  }

  private static void bishopsKeepPens(Promise promise) {
    promise.says("or who has it is a BISHOP");
    promise.refused("a bishop's own", LentQuill.STATE, () -> Towns.of("b1,p1;2"), x -> x.lend(0, 1));
    promise.refused("a bishop's to himself", LentQuill.STATE, () -> Towns.of("b1,p1;2"),
        x -> x.lend(0, 0));
    promise.says("A PEN that a BISHOP (an ABBOT) has is not LENT");
    promise.refused("an abbot's own", LentQuill.STATE, x -> x.lend(3, 0));
    promise.refused("one that was lent to an abbot", LentQuill.STATE, x -> x.lend(4, 0));
    promise.refused("not to its owner either", LentQuill.STATE, x -> x.lend(4, 4));
    LentQuill x = Towns.of("b1,p1,a1;3");
    promise.due("to a bishop", 3, x.lend(1, 0));
    promise.due("and no more", LentQuill.STATE, x.lend(1, 1));
  }

  private static void fortyTimes(Promise promise) {
    promise.says("FULL: it was LENT 40 times.");
    LentQuill x = Towns.worn("p1,p1,p1;2", 0, 1, 39);
    promise.due("the 40th time", 6, x.lend(0, 2));
    promise.due("the 41st time", LentQuill.FULL, x.lend(0, 1));
    promise.due("the 41st time, to its owner", LentQuill.FULL, x.lend(0, 0));
    promise.due("another pen", 3, x.lend(1, 0));
    promise.due("lent in all", 41, x.count(2));
    promise.refused("the 41st time", LentQuill.FULL, () -> Towns.worn("p1,p1,p1;2", 0, 1, 40),
        y -> y.lend(0, 2));
  }

  private static void firstOfSeveral(Promise promise) {
    promise.says("Refusals, of several the first as told by each call");
    for (int to : NOBODY) {
      promise.refused("a bishop's to nobody", LentQuill.UNKNOWN, x -> x.lend(3, to));
      promise.refused("a worn one to nobody", LentQuill.UNKNOWN,
          () -> Towns.worn("p1,p1;2", 0, 1, 40), x -> x.lend(0, to));
    }
    promise.refused("a worn one to who has it", LentQuill.STATE,
        () -> Towns.worn("p1,p1;2", 0, 1, 40), x -> x.lend(0, 0));
    promise.refused("a worn one that a bishop has", LentQuill.STATE, () -> {
      LentQuill x = Towns.worn("p1,p1,b1;2", 0, 1, 39);
      Towns.lend(x, 0, 2);
      return x;
    }, x -> x.lend(0, 1));
  }
}
