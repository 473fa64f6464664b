public final class Promise16HearTest {
  public static void main(String[] args) {
    Promise promise = new Promise(16);
    hold(promise);
    promise.end();
  }

  static void hold(Promise promise) {
    howMuchIs(promise);
    boundOrNot(promise);
    heardTwice(promise);
    sixAtMost(promise);
    refusals(promise);
  }

  private static void howMuchIs(Promise promise) {
    promise.says("It is HEARD: how much is.");
    LentQuill x = Towns.of("p1,p1;2");
    promise.due("the first", 1, x.hear(0, true));
    promise.due("the same again", 2, x.hear(0, true));
    promise.due("the contrary", 3, x.hear(0, false));
    promise.due("of the last one", 4, x.hear(1, false));
  }

  private static void boundOrNot(Promise promise) {
    promise.says("that one is BOUND by a PEN of which it is not known to whom it was LENT, or is not.");
    for (int person = 0; person < 5; person++) {
      LentQuill is = Towns.of("p1,p1,p1,p1,p1;1");
      is.hear(person, true);
      LentQuill isNot = Towns.of("p1,p1,p1,p1,p1;1");
      isNot.hear(person, false);
      for (int pen = 0; pen < 5; pen++) {
        promise.due("bound, pen " + pen, pen == person ? 1 : 0, is.hands(pen, 0, 0));
        promise.due("not bound, pen " + pen, pen == person ? 0 : 1, isNot.hands(pen, 0, 0));
      }
    }
  }

  private static void heardTwice(Promise promise) {
    promise.says("that one is BOUND by a PEN of which it is not known to whom it was LENT, or is not.");
    LentQuill x = Towns.of("p1,p1;1");
    x.hear(0, true);
    x.hear(0, true);
    promise.due("bound, heard twice", 0, x.hands(1, 0, 0));
    x.forget();
    x.hear(0, false);
    x.hear(0, false);
    promise.due("not bound, heard twice", 0, x.hands(0, 0, 0));
  }

  private static LentQuill sixHeard() {
    LentQuill x = Towns.of("p1,p1;2");
    for (int i = 0; i < 6; i++) {
      x.hear(0, true);
    }
    return x;
  }

  private static void sixAtMost(Promise promise) {
    promise.says("HEARD (6 at most)");
    LentQuill x = Towns.of("p1,p1;2");
    for (int i = 1; i <= 6; i++) {
      promise.due("hear " + i, i, x.hear(1, true));
    }
    promise.due("hear 7", LentQuill.FULL, x.hear(1, true));
    promise.says("FULL.");
    promise.refused("hear 7", LentQuill.FULL, Promise16HearTest::sixHeard, y -> y.hear(1, true));
    promise.refused("not bound", LentQuill.FULL, Promise16HearTest::sixHeard, y -> y.hear(0, false));
    x.forget();
    promise.due("the first again", 1, x.hear(1, true));
  }

  private static void refusals(Promise promise) {
    promise.says("UNKNOWN");
    promise.unknown("hear, bound", (x, person) -> x.hear(person, true));
    promise.unknown("hear, not bound", (x, person) -> x.hear(person, false));
    promise.says("Refusals, of several the first as told by each call");
    promise.refused("nobody, full", LentQuill.UNKNOWN, Promise16HearTest::sixHeard,
        x -> x.hear(2, true));
  }
}
