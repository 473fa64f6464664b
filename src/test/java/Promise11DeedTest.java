public final class Promise11DeedTest {
  public static void main(String[] args) {
    Promise promise = new Promise(11);
    hold(promise);
    promise.end();
  }

  static void hold(Promise promise) {
    debts(promise);
    boundAsThen(promise);
    sure(promise);
    sixthDeed(promise);
    refusals(promise);
  }

  private static void debts(Promise promise) {
    promise.says("Of a DEED: what = 0 DEBT");
    LentQuill x = Towns.of("p1,p1;2");
    Towns.sign(x, 0, 1, 9);
    promise.due("the least", 1, x.deed(0, 0));
    promise.due("the greatest", 9, x.deed(1, 0));
    Towns.free(x, 1, 0);
    promise.due("of a void one", 9, x.deed(1, 0));
  }

  private static void boundAsThen(Promise promise) {
    promise.says("those are BOUND by it who are BOUND by the PEN then.");
    LentQuill x = Towns.of("p4,a3,p2;3");
    Towns.sign(x, 0, 7);
    Towns.lend(x, 0, 2, 1);
    Towns.sign(x, 0, 9);
    promise.due("before it was lent", 1, x.deed(0, 1));
    promise.due("lent twice", 7, x.deed(1, 1));
    promise.says("1 who is BOUND, as bits");
    Towns.free(x, 1, 0);
    promise.due("one freed", 6, x.deed(1, 1));
    Towns.free(x, 1, 1, 2);
    promise.due("all freed", 0, x.deed(1, 1));
    LentQuill all = Towns.of("p1,p1,p1,p1,p1;5");
    Towns.lend(all, 4, 0, 1, 2, 3);
    Towns.sign(all, 4, 1);
    promise.due("all five", 31, all.deed(0, 1));
  }

  private static void sure(Promise promise) {
    promise.says("2 SURE.");
    LentQuill worthless = Towns.of("p0,p9;1");
    Towns.sign(worthless, 0, 1);
    promise.due("worth nothing", 0, worthless.deed(0, 2));
    promise.says("SURE is a DEED by what all who are BOUND by it are WORTH together.");
    LentQuill x = Towns.of("p4,a3,p2,y9;3");
    Towns.lend(x, 0, 2, 1);
    Towns.sign(x, 0, 9);
    promise.due("the abbot twice", 12, x.deed(0, 2));
    Towns.free(x, 0, 0);
    promise.due("one freed", 8, x.deed(0, 2));
    Towns.free(x, 0, 1, 2);
    promise.due("void", 0, x.deed(0, 2));
    LentQuill most = Towns.of("p9,b9,t9,p9,a9;5");
    Towns.lend(most, 2, 0, 3, 4);
    Towns.sign(most, 2, 1);
    promise.due("four with an abbot", 45, most.deed(0, 2));
  }

  private static void sixthDeed(Promise promise) {
    promise.says("A DEED (6 at most, numbered)");
    LentQuill x = Towns.of("p1,p1;2");
    Towns.sign(x, 0, 1, 2, 3, 4, 5, 6);
    promise.due("the sixth", 6, x.deed(5, 0));
    promise.due("the seventh", LentQuill.UNKNOWN, x.deed(6, 0));
    Towns.readAnother(x, "p1,p1;2");
    promise.due("of another town", LentQuill.UNKNOWN, x.deed(0, 0));
  }

  private static void refusals(Promise promise) {
    promise.says("UNKNOWN");
    for (int number : new int[] {-1, 2, 6, Integer.MIN_VALUE, Integer.MAX_VALUE}) {
      for (int what = 0; what <= 2; what++) {
        int told = what;
        promise.refused("deed(" + number + ", " + what + ")", LentQuill.UNKNOWN,
            x -> x.deed(number, told));
      }
    }
    promise.says("OUTSIDE");
    promise.outside("deed 0", 0, 2, (x, what) -> x.deed(0, what));
    promise.outside("a void deed", 0, 2, (x, what) -> x.deed(1, what));
    promise.says("Refusals, of several the first as told by each call");
    promise.refused("deed(2, 3)", LentQuill.UNKNOWN, x -> x.deed(2, 3));
    promise.refused("deed(-1, -1)", LentQuill.UNKNOWN, x -> x.deed(-1, -1));
  }
}
