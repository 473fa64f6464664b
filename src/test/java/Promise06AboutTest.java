public final class Promise06AboutTest {
  public static void main(String[] args) {
    Promise promise = new Promise(6);
    hold(promise);
    promise.end();
  }

  static void hold(Promise promise) {
    kinds(promise);
    worths(promise);
    whoHasIt(promise);
    boundAsBits(promise);
    boundUpToTheLimit(promise);
    eachCountedOnce(promise);
    boundBackToAThief(promise);
    boysAreNever(promise);
    howManyPens(promise);
    howManyDeeds(promise);
    refusals(promise);
  }

  private static void kinds(Promise promise) {
    promise.says("Of one: what = 0 KIND");
    LentQuill two = Towns.of("a5,y1;3");
    promise.due("an abbot's", 4, two.about(0, 0));
    promise.due("a boy's", 3, two.about(1, 0));
    promise.says("KINDS are told by the letter: 0 PERSON \"p\", 1 BISHOP \"b\", 2 THIEF \"t\", 3 BOY \"y\", 4 ABBOT \"a\".");
    LentQuill x = Towns.of("p1,b2,t3,y4,a5;3");
    for (int i = 0; i < 5; i++) {
      promise.due("about(" + i + ", 0)", i, x.about(i, 0));
    }
  }

  private static void worths(Promise promise) {
    promise.says("1 WORTH (as it counts)");
    LentQuill x = Towns.of("p0,p9,b9,t9,y9;1");
    int[] worths = {0, 9, 9, 9, 9};
    for (int i = 0; i < worths.length; i++) {
      promise.due("about(" + i + ", 1)", worths[i], x.about(i, 1));
    }
    promise.says("What one is WORTH counts twice for an ABBOT.");
    LentQuill abbots = Towns.of("a0,a1,a9;1");
    promise.due("of 0", 0, abbots.about(0, 1));
    promise.due("of 1", 2, abbots.about(1, 1));
    promise.due("of 9", 18, abbots.about(2, 1));
  }

  private static void whoHasIt(Promise promise) {
    promise.says("2 who has his PEN");
    LentQuill x = Towns.of("p1,p1,p1;3");
    promise.due("at first", 1, x.about(1, 2));
    Towns.lend(x, 1, 2);
    promise.due("lent once", 2, x.about(1, 2));
    promise.due("another pen", 2, x.about(2, 2));
    LentQuill worn = Towns.worn("p1,p1,p1;3", 0, 2, 39);
    promise.due("lent 39 times", 2, worn.about(0, 2));
    Towns.lend(worn, 0, 1);
    promise.due("lent 40 times", 1, worn.about(0, 2));
  }

  private static void bound(Promise promise, String town, int want, int pen, int... to) {
    LentQuill x = Towns.of(town);
    Towns.lend(x, pen, to);
    String call = "by pen " + pen + " of " + town + ", lent " + to.length + " times";
    promise.due(call, want, x.about(pen, 3));
  }

  private static void boundAsBits(Promise promise) {
    promise.says("3 who is BOUND by it, as bits");
    for (int pen = 0; pen < 5; pen++) {
      bound(promise, "p1,b1,t1,a1,p1;3", 1 << pen, pen);
    }
  }

  private static void boundUpToTheLimit(Promise promise) {
    promise.says("BOUND by a PEN are, of the last of those who had it, as many as LIMIT tells");
    int[] last = {16, 24, 28, 30, 31};
    for (int limit = 1; limit <= 5; limit++) {
      bound(promise, "p1,p1,p1,p1,p1;" + limit, last[limit - 1], 0, 1, 2, 3, 4);
    }
    bound(promise, "p1,p1;5", 1, 0);
    bound(promise, "p1,p1;5", 3, 0, 1);
    bound(promise, "p1,p1,p1;2", 5, 0, 1, 2, 0);
  }

  private static void eachCountedOnce(Promise promise) {
    promise.says("each counted once (as last)");
    bound(promise, "p1,p1,p1;3", 7, 2, 0, 1, 0, 1, 0);
    bound(promise, "p1,p1,p1;2", 3, 2, 0, 1, 0, 1, 0);
    bound(promise, "p1,p1,p1;2", 6, 0, 1, 2, 1);
    bound(promise, "p1,p1,p1,p1;2", 10, 0, 1, 2, 3, 1);
    LentQuill worn = Towns.worn("p1,p1,p1;3", 0, 1, 39);
    promise.due("lent 39 times to and fro", 3, worn.about(0, 3));
    Towns.lend(worn, 0, 2);
    promise.due("lent 40 times", 7, worn.about(0, 3));
    LentQuill far = Towns.of("p1,p1,p1;3");
    Towns.lend(far, 2, 0);
    for (int i = 1; i < 40; i++) {
      Towns.lend(far, 2, i % 2);
    }
    promise.due("the owner, 40 lendings back", 7, far.about(2, 3));
  }

  private static void boundBackToAThief(Promise promise) {
    promise.says("from the last one back, no farther than to the first THIEF on the way (him, too)");
    bound(promise, "p1,t1,p1;5", 2, 0, 1);
    bound(promise, "p1,t1,p1;5", 6, 0, 1, 2);
    bound(promise, "p1,t1,p1;5", 7, 0, 1, 2, 0);
    bound(promise, "p1,t1,p1;5", 3, 1, 0);
    bound(promise, "p1,t1,p1,t1;5", 12, 0, 1, 3, 2);
    bound(promise, "p1,t1,p1,t1;5", 2, 0, 3, 2, 1);
    bound(promise, "p1,t1,p1,p1;2", 12, 1, 2, 3);
    bound(promise, "p1,t1,p1,p1;3", 14, 1, 2, 3);
    bound(promise, "p1,t1,p1;5", 6, 1, 0, 1, 2);
    bound(promise, "p1,t1,y1;5", 2, 0, 1, 2);
    bound(promise, "p1,t1,a1;5", 6, 0, 1, 2);
  }

  private static void boysAreNever(Promise promise) {
    promise.says("but a BOY never is.");
    bound(promise, "y1,p1;5", 0, 0);
    bound(promise, "y1,p1;5", 2, 0, 1);
    bound(promise, "y1,p1;5", 2, 1, 0);
    bound(promise, "y1,y1,y1,y1,y1;5", 0, 0, 1, 2, 3, 4);
    bound(promise, "p1,y1,p1;1", 0, 0, 1);
    bound(promise, "p1,y1,p1;2", 4, 0, 1, 2);
    bound(promise, "p1,y1,p1;3", 5, 0, 1, 2);
  }

  private static void howManyPens(Promise promise) {
    promise.says("4 how many PENS he has");
    LentQuill x = Towns.of("p1,p1,p1,p1,p1;1");
    for (int i = 0; i < 5; i++) {
      promise.due("at first", 1, x.about(i, 4));
    }
    for (int i = 1; i < 5; i++) {
      Towns.lend(x, i, 0);
      promise.due("of " + i, 0, x.about(i, 4));
      promise.due("of 0", i + 1, x.about(0, 4));
    }
    promise.due("of two people", 2, Towns.smallAfterBusy().about(1, 4));
  }

  private static void howManyDeeds(Promise promise) {
    promise.says("5 by how many DEEDS he is BOUND.");
    LentQuill x = Towns.of("p1,p1,y1;2");
    Towns.lend(x, 0, 1);
    for (int i = 0; i < 6; i++) {
      promise.due("deeds", i, x.about(0, 5));
      Towns.sign(x, 0, 1);
    }
    promise.due("by six", 6, x.about(0, 5));
    promise.due("a boy by none", 0, x.about(2, 5));
    Towns.free(x, 5, 0);
    Towns.free(x, 0, 0, 1);
    promise.due("freed of two", 4, x.about(0, 5));
    promise.due("freed of one", 5, x.about(1, 5));
  }

  private static void refusals(Promise promise) {
    promise.says("UNKNOWN");
    for (int what = 0; what <= 5; what++) {
      int told = what;
      promise.unknown("about " + what, (x, person) -> x.about(person, told));
    }
    promise.says("OUTSIDE");
    promise.outside("about 0", 0, 5, (x, what) -> x.about(0, what));
    promise.outside("about 4", 0, 5, (x, what) -> x.about(4, what));
    promise.says("Refusals, of several the first as told by each call");
    promise.refused("about(5, 6)", LentQuill.UNKNOWN, x -> x.about(5, 6));
    promise.refused("about(-1, -1)", LentQuill.UNKNOWN, x -> x.about(-1, -1));
  }
}
