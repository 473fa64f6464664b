public final class Promise13OwesTest {
  public static void main(String[] args) {
    Promise promise = new Promise(13);
    hold(promise);
    promise.end();
  }

  static void hold(Promise promise) {
    nothing(promise);
    sameShares(promise);
    allSharesTogether(promise);
    lowestTerms(promise);
    allThatDividesBoth(promise);
    refusals(promise);
  }

  private static void owes(Promise promise, LentQuill x, int person, int above, int below) {
    promise.due("above, of " + person, above, x.owes(person, 0));
    promise.due("below, of " + person, below, x.owes(person, 1));
  }

  private static void nothing(Promise promise) {
    promise.says("(0 of 1)");
    LentQuill x = Towns.of("p1,y1,p1;2");
    owes(promise, x, 0, 0, 1);
    Towns.lend(x, 0, 1);
    Towns.sign(x, 0, 7);
    owes(promise, x, 1, 0, 1);
    owes(promise, x, 2, 0, 1);
    Towns.free(x, 0, 0);
    owes(promise, x, 0, 0, 1);
  }

  private static void sameShares(Promise promise) {
    promise.says("Each of these owes of it the same SHARE of DEBT.");
    LentQuill x = Towns.of("p1,p2,p3,p4,p5;5");
    Towns.lend(x, 0, 1, 2, 3, 4);
    Towns.sign(x, 0, 7);
    for (int sharers = 5; sharers >= 1; sharers--) {
      for (int person = 0; person < sharers; person++) {
        owes(promise, x, person, 7, sharers);
      }
      Towns.free(x, 0, sharers - 1);
      owes(promise, x, sharers - 1, 0, 1);
    }
  }

  private static void allSharesTogether(Promise promise) {
    promise.says("OWES of one: all his SHARES together, in whole parts.");
    LentQuill x = Towns.of("p1,p1,p1,p1,p1;5");
    Towns.sign(x, 0, 1);
    for (int to = 1; to < 5; to++) {
      Towns.lend(x, 0, to);
      Towns.sign(x, 0, 1);
    }
    owes(promise, x, 0, 137, 60);
    owes(promise, x, 1, 77, 60);
    owes(promise, x, 2, 47, 60);
    owes(promise, x, 3, 9, 20);
    owes(promise, x, 4, 1, 5);
    LentQuill most = Towns.of("p1,p1;1");
    Towns.sign(most, 0, 9, 9, 9, 9, 9, 9);
    owes(promise, most, 0, 54, 1);
    LentQuill sixth = Towns.of("p1,p1;1");
    Towns.sign(sixth, 0, 1, 1, 1, 1, 1);
    Towns.sign(sixth, 1, 3);
    owes(promise, sixth, 1, 3, 1);
  }

  private static void lowestTerms(Promise promise) {
    promise.says("OWES: what = 0 above, 1 below, in lowest terms");
    LentQuill x = Towns.of("p1,p1,p1,p1;4");
    Towns.lend(x, 0, 1, 2, 3);
    Towns.sign(x, 0, 6);
    owes(promise, x, 3, 3, 2);
    Towns.sign(x, 0, 2);
    owes(promise, x, 3, 2, 1);
    Towns.sign(x, 0, 1);
    owes(promise, x, 3, 9, 4);
    Towns.free(x, 1, 0);
    owes(promise, x, 3, 29, 12);
    owes(promise, x, 0, 7, 4);
  }

  /** What 0 owes of debts of 1, each with so many sharers; these numbers do not fall. */
  private static void owesOf(Promise promise, int above, int below, int... sharers) {
    LentQuill x = Towns.of("p1,p1,p1,p1,p1;5");
    int bound = 1;
    for (int each : sharers) {
      for (; bound < each; bound++) {
        Towns.lend(x, 0, bound);
      }
      Towns.sign(x, 0, 1);
    }
    owes(promise, x, 0, above, below);
  }

  private static void allThatDividesBoth(Promise promise) {
    promise.says("in lowest terms");
    owesOf(promise, 77, 60, 2, 3, 4, 5);
    owesOf(promise, 31, 30, 2, 3, 5);
    owesOf(promise, 9, 20, 4, 5);
    owesOf(promise, 8, 15, 3, 5);
    owesOf(promise, 7, 12, 3, 4);
    owesOf(promise, 7, 10, 2, 5);
    owesOf(promise, 5, 6, 2, 3);
    owesOf(promise, 1, 5, 5);
    owesOf(promise, 3, 4, 2, 4);
    owesOf(promise, 1, 3, 3);
    owesOf(promise, 1, 2, 2);
    owesOf(promise, 1, 1, 2, 2);
  }

  private static void refusals(Promise promise) {
    promise.says("UNKNOWN");
    promise.unknown("above", (x, person) -> x.owes(person, 0));
    promise.unknown("below", (x, person) -> x.owes(person, 1));
    promise.says("OUTSIDE");
    promise.outside("owes 1", 0, 1, (x, what) -> x.owes(1, what));
    promise.outside("owes nothing", 0, 1, (x, what) -> x.owes(0, what));
    promise.says("Refusals, of several the first as told by each call");
    promise.refused("owes(5, 2)", LentQuill.UNKNOWN, x -> x.owes(5, 2));
    promise.refused("owes(-1, -1)", LentQuill.UNKNOWN, x -> x.owes(-1, -1));
  }
}
