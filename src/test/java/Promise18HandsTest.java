public final class Promise18HandsTest {
  private static final String FIVE = "p1,p1,p1,p1,p1;5";

  public static void main(String[] args) {
    Promise promise = new Promise(18);
    hold(promise);
    promise.end();
  }

  static void hold(Promise promise) {
    zeroToFourTimes(promise);
    fromNow(promise);
    whoCanHaveIt(promise);
    allHeardIsSo(promise);
    bishopsPens(promise);
    wornPens(promise);
    refusals(promise);
  }

  private static void hands(Promise promise, LentQuill x, int pen, int times, int ways, int who) {
    String call = "hands(" + pen + ", " + times + ", ";
    promise.due(call + "0)", ways, x.hands(pen, times, 0));
    promise.due(call + "1)", who, x.hands(pen, times, 1));
  }

  private static void zeroToFourTimes(Promise promise) {
    promise.says("HANDS for a PEN and so many times (0 to 4)");
    LentQuill x = Towns.of(FIVE);
    hands(promise, x, 3, 0, 1, 8);
    hands(promise, x, 3, 1, 4, 23);
    hands(promise, x, 3, 2, 16, 31);
    hands(promise, x, 3, 3, 64, 31);
    hands(promise, x, 3, 4, 256, 31);
    promise.due("nothing is lent by it", 0, x.count(2));
  }

  private static void fromNow(Promise promise) {
    promise.says("in how many ways it can have been LENT so often from now");
    LentQuill x = Towns.of(FIVE);
    Towns.lend(x, 3, 4);
    hands(promise, x, 3, 0, 1, 16);
    hands(promise, x, 3, 1, 4, 15);
  }

  private static void whoCanHaveIt(Promise promise) {
    promise.says("HANDS: what = 0 how many ways, 1 who can have it, as bits.");
    LentQuill x = Towns.of("p1,p1;2");
    for (int times = 0; times <= 4; times++) {
      hands(promise, x, 0, times, 1, times % 2 == 0 ? 1 : 2);
    }
    LentQuill boys = Towns.of("y1,y1,y1;1");
    hands(promise, boys, 0, 2, 4, 7);
  }

  private static void allHeardIsSo(Promise promise) {
    promise.says("so that all HEARD is so: how many; who can have it then, as bits.");
    LentQuill x = Towns.of("p1,t1,y1,p1;2");
    x.hear(0, true);
    hands(promise, x, 0, 0, 1, 1);
    hands(promise, x, 3, 0, 0, 0);
    hands(promise, x, 0, 1, 2, 12);
    hands(promise, x, 0, 2, 3, 1);
    x.hear(3, false);
    hands(promise, x, 0, 1, 1, 4);
    hands(promise, x, 0, 2, 2, 1);
    x.hear(1, true);
    hands(promise, x, 0, 2, 1, 1);
    x.hear(1, false);
    hands(promise, x, 0, 2, 0, 0);
    x.forget();
    x.hear(2, true);
    hands(promise, x, 0, 4, 0, 0);
  }

  private static void bishopsPens(Promise promise) {
    promise.says("A PEN that a BISHOP (an ABBOT) has is not LENT");
    LentQuill x = Towns.of("p1,b1,p1;3");
    hands(promise, x, 1, 0, 1, 2);
    hands(promise, x, 1, 1, 0, 0);
    hands(promise, x, 0, 1, 2, 6);
    hands(promise, x, 0, 2, 2, 3);
    hands(promise, x, 0, 4, 2, 3);
    LentQuill abbot = Towns.of("p1,a1;3");
    hands(promise, abbot, 1, 1, 0, 0);
    hands(promise, abbot, 0, 1, 1, 2);
    hands(promise, abbot, 0, 2, 0, 0);
  }

  private static void wornPens(Promise promise) {
    promise.says("nor one that was LENT 40 times (in all that follows, too).");
    LentQuill x = Towns.worn("p1,p1,p1;3", 0, 1, 36);
    hands(promise, x, 0, 4, 16, 7);
    Towns.lend(x, 0, 1);
    hands(promise, x, 0, 3, 8, 7);
    hands(promise, x, 0, 4, 0, 0);
    Towns.lend(x, 0, 0, 1, 0);
    hands(promise, x, 0, 0, 1, 1);
    hands(promise, x, 0, 1, 0, 0);
    hands(promise, x, 1, 1, 2, 5);
  }

  private static void refusals(Promise promise) {
    promise.says("UNKNOWN: pen");
    promise.unknown("how many ways", (x, pen) -> x.hands(pen, 0, 0));
    promise.unknown("who can have it", (x, pen) -> x.hands(pen, 4, 1));
    promise.says("OUTSIDE: times (0 to 4), what.");
    promise.outside("hands, times", 0, 4, (x, times) -> x.hands(0, times, 0));
    promise.outside("hands, what", 0, 1, (x, what) -> x.hands(0, 0, what));
    promise.says("Refusals, of several the first as told by each call");
    promise.refused("hands(5, 5, 2)", LentQuill.UNKNOWN, x -> x.hands(5, 5, 2));
    promise.refused("hands(-1, 0, -1)", LentQuill.UNKNOWN, x -> x.hands(-1, 0, -1));
  }
}
