public final class Promise12FreeTest {
  public static void main(String[] args) {
    Promise promise = new Promise(12);
    hold(promise);
    promise.end();
  }

  static void hold(Promise promise) {
    howManyYet(promise);
    theOthersAre(promise);
    byNobodyItIsVoid(promise);
    numbersThatNameNothing(promise);
    notBound(promise);
    firstOfSeveral(promise);
  }

  private static void howManyYet(Promise promise) {
    promise.says("FREED: how many are BOUND yet.");
    LentQuill x = Towns.of("p1,p1,p1,p1,p1;5");
    Towns.lend(x, 0, 1, 2, 3, 4);
    Towns.sign(x, 0, 9);
    int[] freed = {4, 0, 2, 1, 3};
    for (int i = 0; i < 5; i++) {
      promise.due("free(0, " + freed[i] + ")", 4 - i, x.free(0, freed[i]));
    }
  }

  private static void theOthersAre(Promise promise) {
    promise.says("One is FREED of a DEED: he is BOUND by it no more, the others are");
    LentQuill x = Towns.of("p4,p3,p2;3");
    Towns.lend(x, 0, 1);
    Towns.sign(x, 0, 5, 6);
    Towns.free(x, 0, 0);
    promise.due("the other one", 2, x.deed(0, 1));
    promise.due("the other deed", 3, x.deed(1, 1));
    promise.due("by the pen", 3, x.about(0, 3));
    promise.due("deeds that he is bound by", 1, x.about(0, 5));
    promise.due("a deed signed later binds him", 2, x.sign(0, 1));
    promise.due("bound by that", 3, x.deed(2, 1));
  }

  private static void byNobodyItIsVoid(Promise promise) {
    promise.says("by nobody it is VOID.");
    LentQuill x = Towns.of("p1,p1;2");
    Towns.lend(x, 0, 1);
    Towns.sign(x, 0, 5);
    Towns.free(x, 0, 0);
    promise.due("one is bound: void", 0, x.count(4));
    promise.due("the last", 0, x.free(0, 1));
    promise.due("nobody is bound: void", 1, x.count(4));
    promise.due("deeds", 1, x.count(3));
  }

  private static void numbersThatNameNothing(Promise promise) {
    promise.says("UNKNOWN: deed, person");
    for (int number : new int[] {-1, 2, 6, Integer.MIN_VALUE, Integer.MAX_VALUE}) {
      promise.refused("deed " + number, LentQuill.UNKNOWN, x -> x.free(number, 1));
    }
    promise.unknown("free of", (x, person) -> x.free(0, person));
  }

  private static void notBound(Promise promise) {
    promise.says("STATE: he is not BOUND by it.");
    promise.refused("never bound", LentQuill.STATE, x -> x.free(0, 0));
    promise.refused("a boy", LentQuill.STATE, x -> x.free(0, 2));
    promise.refused("freed before", LentQuill.STATE, x -> x.free(1, 0));
    promise.refused("of a void one", LentQuill.STATE, x -> x.free(1, 4));
  }

  private static void firstOfSeveral(Promise promise) {
    promise.says("Refusals, of several the first as told by each call");
    promise.refused("free(2, 5)", LentQuill.UNKNOWN, x -> x.free(2, 5));
    promise.refused("nobody, of a void one", LentQuill.UNKNOWN, x -> x.free(1, 5));
  }
}
