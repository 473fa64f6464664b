public final class Promise10SignTest {
  public static void main(String[] args) {
    Promise promise = new Promise(10);
    hold(promise);
    promise.end();
  }

  static void hold(Promise promise) {
    numbersOfDeeds(promise);
    debtsFrom1To9(promise);
    nobodyBound(promise);
    sixDeeds(promise);
    firstOfSeveral(promise);
  }

  private static void numbersOfDeeds(Promise promise) {
    promise.says("SIGNED: the number of the DEED.");
    LentQuill x = Towns.of("p1,p1;2");
    promise.due("the first", 0, x.sign(1, 4));
    promise.due("the second", 1, x.sign(0, 4));
    promise.due("the pen is not lent by it", 0, x.count(2));
    Towns.free(x, 0, 1);
    promise.due("behind a void one", 2, x.sign(0, 4));
    promise.says("UNKNOWN: pen");
    promise.unknown("sign", (y, pen) -> y.sign(pen, 1));
  }

  private static void debtsFrom1To9(Promise promise) {
    promise.says("OUTSIDE: debt");
    promise.outside("sign", 1, 9, (x, debt) -> x.sign(0, debt));
    promise.says("for a DEBT (1 to 9)");
    for (int debt = 1; debt <= 9; debt++) {
      LentQuill x = Towns.of("p1,p1;2");
      promise.due("sign(0, " + debt + ")", 0, x.sign(0, debt));
      promise.due("debt", debt, x.deed(0, 0));
    }
    promise.due("sign(0, 0)", LentQuill.OUTSIDE, Towns.of("p1,p1;2").sign(0, 0));
    promise.due("sign(0, 10)", LentQuill.OUTSIDE, Towns.of("p1,p1;2").sign(0, 10));
  }

  private static void nobodyBound(Promise promise) {
    promise.says("STATE: nobody would be BOUND");
    promise.refused("a boy's own", LentQuill.STATE, () -> Towns.of("y1,p1;5"), x -> x.sign(0, 5));
    promise.refused("lent among boys", LentQuill.STATE, () -> {
      LentQuill x = Towns.of("p1,y1,y1;2");
      Towns.lend(x, 0, 1, 2);
      return x;
    }, x -> x.sign(0, 5));
    LentQuill x = Towns.of("p1,y1;2");
    Towns.lend(x, 0, 1);
    promise.due("one is bound yet", 0, x.sign(0, 5));
  }

  private static LentQuill sixSigned() {
    LentQuill x = Towns.of("p1,y1;2");
    Towns.sign(x, 0, 1, 2, 3, 4, 5, 6);
    return x;
  }

  private static void sixDeeds(Promise promise) {
    promise.says("A DEED (6 at most, numbered) is SIGNED by a PEN");
    LentQuill x = Towns.of("p1,y1;2");
    for (int i = 0; i < 6; i++) {
      promise.due("deed " + i, i, x.sign(0, 1));
    }
    promise.due("the seventh", LentQuill.FULL, x.sign(0, 1));
    promise.says("FULL");
    promise.refused("the seventh", LentQuill.FULL, Promise10SignTest::sixSigned, y -> y.sign(0, 9));
    promise.refused("the seventh, one being void", LentQuill.FULL, () -> {
      LentQuill y = sixSigned();
      Towns.free(y, 5, 0);
      return y;
    }, y -> y.sign(0, 9));
    Towns.readAnother(x, "p1,y1;2");
    promise.due("the first of another town", 0, x.sign(0, 1));
  }

  private static void firstOfSeveral(Promise promise) {
    promise.says("Refusals, of several the first as told by each call");
    promise.refused("no pen, no debt", LentQuill.UNKNOWN, x -> x.sign(5, 10));
    promise.refused("no debt, nobody", LentQuill.OUTSIDE, () -> Towns.of("y1,p1;5"),
        x -> x.sign(0, 0));
    promise.refused("no pen, full", LentQuill.UNKNOWN, Promise10SignTest::sixSigned,
        x -> x.sign(2, 1));
    promise.refused("no debt, full", LentQuill.OUTSIDE, Promise10SignTest::sixSigned,
        x -> x.sign(0, 10));
    promise.refused("nobody, full", LentQuill.STATE, Promise10SignTest::sixSigned,
        x -> x.sign(1, 1));
    promise.says("UNKNOWN (a number names nothing), OUTSIDE (it is not as told), STATE (as told), FULL");
    promise.due("UNKNOWN", LentQuill.UNKNOWN, sixSigned().sign(2, 0));
    promise.due("OUTSIDE", LentQuill.OUTSIDE, sixSigned().sign(1, 0));
    promise.due("STATE", LentQuill.STATE, sixSigned().sign(1, 1));
    promise.due("FULL", LentQuill.FULL, sixSigned().sign(0, 1));
  }
}
