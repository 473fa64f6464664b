public final class Promise09HadTest {
  public static void main(String[] args) {
    Promise promise = new Promise(9);
    hold(promise);
    promise.end();
  }

  static void hold(Promise promise) {
    ownersAtFirst(promise);
    soManyTimesAgo(promise);
    fortyTimesAgo(promise);
    refusals(promise);
  }

  private static void ownersAtFirst(Promise promise) {
    promise.says("Each has a PEN (of the same number); it has gone through the HANDS of its owner at first.");
    LentQuill x = Towns.of("p1,b1,t1,y1,a1;1");
    for (int pen = 0; pen < 5; pen++) {
      promise.due("had(" + pen + ", 0)", pen, x.had(pen, 0));
      promise.due("had(" + pen + ", 1)", LentQuill.NONE, x.had(pen, 1));
    }
  }

  private static void soManyTimesAgo(Promise promise) {
    promise.says("Who had a PEN so many times ago (0: who has it");
    LentQuill x = Towns.of("p1,p1,p1;1");
    Towns.lend(x, 1, 0, 2, 0);
    int[] before = {0, 2, 0, 1};
    for (int back = 0; back < before.length; back++) {
      promise.due("had(1, " + back + ")", before[back], x.had(1, back));
    }
    promise.due("another pen", 0, x.had(0, 0));
    promise.says("NONE: it was not LENT so often");
    promise.due("had(1, 4)", LentQuill.NONE, x.had(1, 4));
    promise.due("had(1, 40)", LentQuill.NONE, x.had(1, 40));
    promise.due("had(0, 1)", LentQuill.NONE, x.had(0, 1));
    promise.due("had(0, 40)", LentQuill.NONE, x.had(0, 40));
  }

  private static void fortyTimesAgo(Promise promise) {
    promise.says("back (0 to 40).");
    LentQuill x = Towns.worn("p1,p1;2", 1, 0, 39);
    promise.due("39 times ago, lent 39 times", 1, x.had(1, 39));
    promise.due("40 times ago, lent 39 times", LentQuill.NONE, x.had(1, 40));
    Towns.lend(x, 1, 1);
    promise.due("who has it", 1, x.had(1, 0));
    promise.due("once ago", 0, x.had(1, 1));
    promise.due("39 times ago", 0, x.had(1, 39));
    promise.due("40 times ago", 1, x.had(1, 40));
    promise.due("41 times ago", LentQuill.OUTSIDE, x.had(1, 41));
  }

  private static void refusals(Promise promise) {
    promise.says("UNKNOWN");
    promise.unknown("had", (x, pen) -> x.had(pen, 0));
    promise.says("OUTSIDE: back (0 to 40).");
    promise.outside("had", 0, 40, (x, back) -> x.had(0, back));
    promise.says("Refusals, of several the first as told by each call");
    promise.refused("had(5, 41)", LentQuill.UNKNOWN, x -> x.had(5, 41));
    promise.refused("had(-1, -1)", LentQuill.UNKNOWN, x -> x.had(-1, -1));
  }
}
