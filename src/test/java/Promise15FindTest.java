public final class Promise15FindTest {
  public static void main(String[] args) {
    Promise promise = new Promise(15);
    hold(promise);
    promise.end();
  }

  static void hold(Promise promise) {
    nothingToBreak(promise);
    voidDeeds(promise);
    oneOfEachDeed(promise);
    leastBits(promise);
    everyone(promise);
    sixthDeed(promise);
    refusals(promise);
  }

  private static void find(Promise promise, LentQuill x, int howMany, int which) {
    promise.due("find(0)", howMany, x.find(0));
    promise.due("find(1)", which, x.find(1));
  }

  /** A deed of two by each of these pens, lent once. */
  private static LentQuill pairs(int... pensAndBorrowers) {
    LentQuill x = Towns.of("p1,p1,p1,p1,p1;2");
    for (int i = 0; i + 1 < pensAndBorrowers.length; i += 2) {
      Towns.lend(x, pensAndBorrowers[i], pensAndBorrowers[i + 1]);
      Towns.sign(x, pensAndBorrowers[i], 1);
    }
    return x;
  }

  private static void nothingToBreak(Promise promise) {
    promise.says("FIND: what = 0 how many, 1 which, as bits.");
    find(promise, Towns.of("p1,p1;2"), 0, 0);
    LentQuill x = Towns.of("p1,p1,p1,p1,p1;2");
    Towns.sign(x, 4, 9);
    find(promise, x, 1, 16);
    promise.due("nobody is freed by it", 16, x.deed(0, 1));
  }

  private static void voidDeeds(Promise promise) {
    promise.says("FIND: which PEOPLE to find, so that of each DEED that is not VOID one who is BOUND is found");
    LentQuill x = pairs(3, 1, 0, 2);
    find(promise, x, 2, 3);
    Towns.free(x, 1, 0);
    find(promise, x, 2, 6);
    Towns.free(x, 1, 2);
    find(promise, x, 1, 2);
    Towns.free(x, 0, 1);
    find(promise, x, 1, 8);
    Towns.free(x, 0, 3);
    find(promise, x, 0, 0);
  }

  private static void oneOfEachDeed(Promise promise) {
    promise.says("the fewest");
    find(promise, pairs(0, 4, 1, 4, 2, 4), 1, 16);
    find(promise, pairs(0, 4, 1, 4, 2, 3), 2, 20);
    find(promise, pairs(0, 4, 1, 4, 2, 4, 3, 4), 1, 16);
  }

  private static void leastBits(Promise promise) {
    promise.says("of like ones the least bits.");
    find(promise, pairs(4, 3), 1, 8);
    find(promise, pairs(0, 1, 2, 3), 2, 5);
    find(promise, pairs(0, 1, 1, 2, 2, 0), 2, 3);
    find(promise, pairs(0, 1, 1, 2, 2, 3, 3, 4), 2, 10);
  }

  private static void everyone(Promise promise) {
    promise.says("1 which, as bits.");
    LentQuill x = Towns.of("p1,p1,p1,p1,p1;1");
    for (int i = 0; i < 5; i++) {
      Towns.sign(x, i, 1);
      find(promise, x, i + 1, (1 << i + 1) - 1);
    }
    LentQuill two = Towns.of("p1,p1;1");
    Towns.sign(two, 0, 1);
    Towns.sign(two, 1, 1);
    find(promise, two, 2, 3);
  }

  private static void sixthDeed(Promise promise) {
    promise.says("so that of each DEED that is not VOID one who is BOUND is found");
    LentQuill x = Towns.of("p1,p1;1");
    Towns.sign(x, 1, 1, 1, 1, 1, 1);
    Towns.sign(x, 0, 1);
    find(promise, x, 2, 3);
  }

  private static void refusals(Promise promise) {
    promise.says("OUTSIDE");
    promise.outside("find", 0, 1, LentQuill::find);
    promise.says("STATE: no TOWN.");
    promise.refused("find(0)", LentQuill.STATE, LentQuill::new, x -> x.find(0));
    promise.refused("find(1)", LentQuill.STATE, () -> Towns.written("p1,p1;2"), x -> x.find(1));
    promise.says("Refusals, of several the first as told by each call");
    promise.refused("find(2)", LentQuill.OUTSIDE, LentQuill::new, x -> x.find(2));
    promise.refused("find(-1)", LentQuill.OUTSIDE, LentQuill::new, x -> x.find(-1));
  }
}
