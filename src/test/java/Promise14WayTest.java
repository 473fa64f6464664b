public final class Promise14WayTest {
  private static final int NONE = LentQuill.NONE;
  private static final String FIVE = "p1,p1,p1,p1,p1;5";

  public static void main(String[] args) {
    Promise promise = new Promise(14);
    hold(promise);
    promise.end();
  }

  static void hold(Promise promise) {
    howFewTimes(promise);
    fourAtMost(promise);
    justThese(promise);
    theLeastFirst(promise);
    noneIsNeeded(promise);
    thereIsNone(promise);
    bishopsPens(promise);
    wornPens(promise);
    setsOutside(promise);
    refusals(promise);
    fortyWays(promise);
    firstOfSeveral(promise);
  }

  private static void way(Promise promise, LentQuill x, int pen, int set, int times, int first) {
    promise.due("way(" + pen + ", " + set + ", 0)", times, x.way(pen, set, 0));
    promise.due("way(" + pen + ", " + set + ", 1)", first, x.way(pen, set, 1));
  }

  private static void howFewTimes(Promise promise) {
    promise.says("WAY: what = 0 how few times, 1 to whom the first time");
    LentQuill x = Towns.of(FIVE);
    way(promise, x, 0, 1, 0, NONE);
    way(promise, x, 0, 9, 1, 3);
    way(promise, x, 0, 13, 2, 2);
    way(promise, x, 0, 15, 3, 1);
    way(promise, x, 0, 31, 4, 1);
    promise.due("nothing is lent by it", 0, x.count(2));
    promise.says("from now");
    Towns.lend(x, 0, 4);
    way(promise, x, 0, 17, 0, NONE);
    way(promise, x, 0, 31, 3, 1);
  }

  private static void fourAtMost(Promise promise) {
    promise.says("WAY for a PEN and some PEOPLE (as bits): by how few times it must be LENT (0 to 4)");
    LentQuill x = Towns.of("p1,t1,p1,p1,p1;5");
    way(promise, x, 0, 1, 0, NONE);
    way(promise, x, 1, 31, 4, 0);
    way(promise, x, 0, 31, NONE, NONE);
    Towns.lend(x, 0, 1);
    way(promise, x, 0, 31, 4, 0);
  }

  private static void justThese(Promise promise) {
    promise.says("so that just these are BOUND by it");
    LentQuill x = Towns.of("p1,p1,p1,p1;2");
    way(promise, x, 0, 2, NONE, NONE);
    way(promise, x, 0, 14, NONE, NONE);
    way(promise, x, 0, 10, 2, 1);
    LentQuill boys = Towns.of("p1,y1,y1,t1;1");
    way(promise, boys, 0, 0, 1, 1);
    way(promise, boys, 0, 8, 1, 3);
    way(promise, boys, 0, 9, NONE, NONE);
  }

  private static void theLeastFirst(Promise promise) {
    promise.says("to whom the first time: the least by which it can be so few; none.");
    LentQuill x = Towns.of("p1,p1,p1,p1;2");
    way(promise, x, 0, 6, 2, 1);
    way(promise, x, 0, 12, 2, 2);
    way(promise, x, 3, 3, 2, 0);
    way(promise, x, 3, 6, 2, 1);
    LentQuill thief = Towns.of("p1,p1,p1,t1;4");
    way(promise, thief, 0, 14, 3, 3);
    way(promise, thief, 0, 15, 4, 3);
  }

  private static void noneIsNeeded(Promise promise) {
    promise.says("(NONE: none is needed)");
    LentQuill x = Towns.of("p1,y1,b1;2");
    way(promise, x, 0, 1, 0, NONE);
    way(promise, x, 1, 0, 0, NONE);
    way(promise, x, 2, 4, 0, NONE);
  }

  private static void thereIsNone(Promise promise) {
    promise.says("NONE: there is none.");
    LentQuill x = Towns.of("p1,y1,b1,t1;2");
    way(promise, x, 0, 2, NONE, NONE);
    way(promise, x, 0, 15, NONE, NONE);
    way(promise, x, 0, 0, NONE, NONE);
  }

  private static void bishopsPens(Promise promise) {
    promise.says("A PEN that a BISHOP (an ABBOT) has is not LENT");
    LentQuill x = Towns.of("p1,b1,p1,a1;2");
    way(promise, x, 1, 1, NONE, NONE);
    way(promise, x, 3, 1, NONE, NONE);
    way(promise, x, 0, 3, 1, 1);
    way(promise, x, 0, 10, NONE, NONE);
    way(promise, x, 0, 6, 2, 2);
  }

  private static void wornPens(Promise promise) {
    promise.says("nor one that was LENT 40 times (in all that follows, too).");
    way(promise, Towns.worn("p1,p1,p1,p1,p1;4", 0, 1, 36), 0, 30, 4, 1);
    way(promise, Towns.worn("p1,p1,p1,p1,p1;4", 0, 1, 37), 0, 30, 3, 2);
    way(promise, Towns.worn("p1,p1,p1,p1,p1;4", 0, 1, 38), 0, 30, NONE, NONE);
    way(promise, Towns.worn("p1,p1,p1;3", 0, 1, 39), 0, 7, 1, 2);
    way(promise, Towns.worn("p1,p1,p1;3", 0, 1, 40), 0, 7, NONE, NONE);
    way(promise, Towns.worn("p1,p1,p1;3", 0, 1, 40), 0, 3, 0, NONE);
  }

  private static void setsOutside(Promise promise) {
    promise.says("OUTSIDE: set (bits of PEOPLE), what");
    promise.outside("way to", 0, 31, (x, set) -> x.way(0, set, 0));
    for (int set : new int[] {4, 7, 31}) {
      promise.refused("way to " + set + " of two", LentQuill.OUTSIDE, Towns::smallAfterBusy,
          x -> x.way(0, set, 0));
    }
    promise.due("everyone of two", 0, Towns.smallAfterBusy().way(0, 3, 0));
    promise.due("everyone of five", 4, Towns.of(FIVE).way(0, 31, 0));
    promise.due("nobody", NONE, Towns.of(FIVE).way(0, 0, 0));
    promise.outside("way, told", 0, 1, (x, what) -> x.way(0, 3, what));
  }

  private static void refusals(Promise promise) {
    promise.says("UNKNOWN: pen");
    promise.unknown("way", (x, pen) -> x.way(pen, 0, 0));
  }

  private static LentQuill fortyDone() {
    LentQuill x = Towns.of("p1,p1;2");
    for (int i = 0; i < 40; i++) {
      x.way(0, i % 2 == 0 ? 3 : 0, i / 2 % 2);
    }
    return x;
  }

  private static void fortyWays(Promise promise) {
    promise.says("STATE: way() was done 40 times.");
    LentQuill x = Towns.of("p1,p1;2");
    for (int i = 0; i < 40; i++) {
      promise.due("done", i, x.count(8));
      promise.due("way " + (i + 1), i % 2 == 0 ? 1 : NONE, x.way(0, i % 2 == 0 ? 3 : 0, 0));
      promise.due("refused, not done", LentQuill.OUTSIDE, x.way(0, 4, 0));
    }
    promise.due("the 41st", LentQuill.STATE, x.way(0, 3, 0));
    promise.due("done", 40, x.count(8));
    x.image();
    x.restore();
    promise.due("behind an image", LentQuill.STATE, x.way(0, 3, 0));
    Towns.readAnother(x, "p1,p1;2");
    promise.due("in another town", LentQuill.STATE, x.way(0, 3, 0));
    promise.refused("the 41st", LentQuill.STATE, Promise14WayTest::fortyDone, y -> y.way(0, 3, 1));
  }

  private static void firstOfSeveral(Promise promise) {
    promise.says("Refusals, of several the first as told by each call");
    promise.refused("way(5, 32, 2)", LentQuill.UNKNOWN, x -> x.way(5, 32, 2));
    promise.refused("no pen, 40 done", LentQuill.UNKNOWN, Promise14WayTest::fortyDone,
        x -> x.way(2, 3, 0));
    promise.refused("no set, 40 done", LentQuill.OUTSIDE, Promise14WayTest::fortyDone,
        x -> x.way(0, 4, 0));
    promise.refused("no what, 40 done", LentQuill.OUTSIDE, Promise14WayTest::fortyDone,
        x -> x.way(0, 3, 2));
  }
}
