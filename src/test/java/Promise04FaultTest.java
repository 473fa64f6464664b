public final class Promise04FaultTest {
  public static void main(String[] args) {
    Promise promise = new Promise(4);
    hold(promise);
    promise.end();
  }

  static void hold(Promise promise) {
    noFault(promise);
    firstOfSeveral(promise);
    kindsAndWorths(promise);
    twoToFivePeople(promise);
    limits(promise);
    nothingBehindALimit(promise);
    faultChangesNothing(promise);
  }

  private static int faultOf(String text) {
    return Towns.written(text).fault();
  }

  /** Each sign behind these letters: one of these is no fault, any other is, at its place. */
  private static void next(Promise promise, String ahead, String fitting) {
    for (char code = 32; code <= 126; code++) {
      int fits = fitting.indexOf(code) >= 0 ? 1 : 0;
      promise.due("fault() of " + ahead + code, ahead.length() + fits, faultOf(ahead + code));
    }
  }

  private static void noFault(Promise promise) {
    promise.says("how many letters it has, if there is none.");
    promise.due("fault() of an empty page", 0, new LentQuill().fault());
    for (String text : new String[] {"p0,b1;1", "t9,y5,a0;3", "a9,b8,t7,y6,p5;5"}) {
      for (int length = 0; length <= text.length(); length++) {
        String part = text.substring(0, length);
        promise.due("fault() of " + part, length, faultOf(part));
      }
    }
  }

  private static void firstOfSeveral(Promise promise) {
    promise.says("The place (from 0) of the first letter of THE PAGE that no TOWN has there");
    promise.due("at the first place", 0, faultOf("x"));
    promise.due("the first of two", 0, faultOf("?1,?1;1"));
    promise.due("the first of a full page of faults", 0, faultOf("??????????????????"));
    promise.due("behind a whole town, on a full page", 16, faultOf("p1,p1,p1,p1,p1;5p1"));
    promise.says("behind those ahead of it");
    promise.due("what fits another place", 1, faultOf("pp,p1;1"));
    promise.due("what would fit with one more", 2, faultOf("p1;1"));
    promise.due("what comes behind is not looked at", 6, faultOf("p1,p1;x,p1"));
  }

  private static void kindsAndWorths(Promise promise) {
    promise.says("each a letter, the KIND, and a digit, what each is WORTH (0 to 9)");
    next(promise, "", "pbtya");
    next(promise, "p1,", "pbtya");
    next(promise, "p1,p1,p1,p1,", "pbtya");
    next(promise, "p", "0123456789");
    next(promise, "p1,a", "0123456789");
    next(promise, "p1,p1,p1,p1,y", "0123456789");
  }

  private static void twoToFivePeople(Promise promise) {
    promise.says("two to five PEOPLE (numbered from 0) with \",\" between");
    next(promise, "p1", ",");
    next(promise, "p1,p1", ",;");
    next(promise, "p1,p1,p1", ",;");
    next(promise, "p1,p1,p1,p1", ",;");
    next(promise, "p1,p1,p1,p1,p1", ";");
    promise.due("a sixth one", 14, faultOf("p1,p1,p1,p1,p1,p1"));
  }

  private static void limits(Promise promise) {
    promise.says("then \";\" and a digit LIMIT (1 to 5).");
    next(promise, "p1,p1;", "12345");
    next(promise, "p1,p1,p1;", "12345");
    next(promise, "p1,p1,p1,p1,p1;", "12345");
  }

  private static void nothingBehindALimit(Promise promise) {
    promise.says("The place (from 0) of the first letter of THE PAGE that no TOWN has there");
    next(promise, "p1,p1;1", "");
    next(promise, "p1,p1,p1;5", "");
    next(promise, "p1,p1,p1,p1,p1;5", "");
  }

  private static void faultChangesNothing(Promise promise) {
    promise.says("The place (from 0) of the first letter of THE PAGE that no TOWN has there");
    LentQuill x = Towns.written("p1;1");
    promise.due("fault()", 2, x.fault());
    promise.due("fault() again", 2, x.fault());
    promise.due("letters", 4, x.count(6));
  }
}
